/-! ===== THE LAW: its loop, over the contracts of the public methods (printed by wip/whole/gen63.py) ===== -/
section
def kAll : Prop := kPub 1 113 3 ∧ kPub 3 114 5 ∧ kPub 6 117 5 ∧ kPub 7 122 5 ∧ kPub 9 125 1 ∧ kPub 11 126 0 ∧ kPub 12 127 5 ∧ kPub 47 156 1 ∧ kPub 49 163 1 ∧ kPub 63 157 7 ∧ kPub 64 158 1 ∧ kPub 66 159 2 ∧ kPub 67 160 3 ∧ kPub 71 162 2 ∧ kPub 72 169 0 ∧ kPub 73 170 1 ∧ kPub 74 171 2 ∧ kPub 76 121 2 ∧ kPub 77 172 2 ∧ kPub 78 173 2 ∧ kPub 79 174 2 ∧ kPub 80 175 2 ∧ kPub 81 176 1 ∧ kPub 82 177 3 ∧ kPub 83 178 2 ∧ kPub 84 179 1 ∧ kPub 85 180 2 ∧ kPub 86 118 2 ∧ kPub 87 181 1
theorem lw_8 : ∀ n, n < 8 → nI n - 8 < nI 0 := by decide
theorem lw_loop (hAll : kAll) {N : Nat} {F : Nat → Int32} (hN4 : N ≤ 4096) : ∀ (r j : Nat) (S : xm_S) (A : y_A) (t : Nat), N < 8 * (j + r) → 8 * j ≤ N → t ≤ 100 * j → lI S A t N F → xw 1001 182 18 [some (.inr (some (17, 0))), some (.inr (some (0, 0))), some (.inr (some (11, 0))), some (.inl (nI (8 * j)))] [] S (fun r S' => r = some (.inl 1) ∧ ∃ A' t', kK S' A' t') := by
  intro r
  induction r with
  | zero => intro j S A t h1 h2; omega
  | succ r ih =>
    intro j S A t h1 h2 ht hI
    have hC := hI.C
    have hN : xm_n S 27 0 = N := hI.2.2.2.1
    have hF : ∀ j, xm_i S 17 0 j = F j := hI.2.2.2.2
    refine cw_law_18 hC ?_
    rw [hN]
    by_cases hlt : N < 8 * j + 8
    · have hex : nI N - 8 < nI (8 * j) := by
        by_cases h8 : N < 8
        · rw [show 8 * j = 0 by omega]
          exact lw_8 N h8
        · have e : nI N - 8 = nI (N - 8) := by
            rw [show nI N = nI (N - 8) + 8 from by rw [show (8 : Int32) = nI 8 from rfl, nI_add, Nat.sub_add_cancel (by omega)], Int32.add_sub_cancel]
          rw [e]
          exact nI_lt (by omega) (by omega)
      exact ⟨fun _ => ⟨rfl, A, t, hI.1⟩, fun z => absurd hex z⟩
    have hex : ¬ nI N - 8 < nI (8 * j) := by
      have e : nI N - 8 = nI (N - 8) := by
        rw [show nI N = nI (N - 8) + 8 from by rw [show (8 : Int32) = nI 8 from rfl, nI_add, Nat.sub_add_cancel (by omega)], Int32.add_sub_cancel]
      rw [e]
      exact nI_nlt (by omega) (by omega)
    have E1 : nI (8 * j) + (1 : Int32) = nI (8 * j + 1) := nI_add (8 * j) 1
    have E2 : nI (8 * j) + (2 : Int32) = nI (8 * j + 2) := nI_add (8 * j) 2
    have E3 : nI (8 * j) + (3 : Int32) = nI (8 * j + 3) := nI_add (8 * j) 3
    have E4 : nI (8 * j) + (4 : Int32) = nI (8 * j + 4) := nI_add (8 * j) 4
    have E5 : nI (8 * j) + (5 : Int32) = nI (8 * j + 5) := nI_add (8 * j) 5
    have E6 : nI (8 * j) + (6 : Int32) = nI (8 * j + 6) := nI_add (8 * j) 6
    have E7 : nI (8 * j) + (7 : Int32) = nI (8 * j + 7) := nI_add (8 * j) 7
    have E8 : nI (8 * j) + (8 : Int32) = nI (8 * j + 8) := nI_add (8 * j) 8
    have Y0 : y_ix (nI (8 * j + 0)) = 8 * j + 0 := y_ix_nI (by omega)
    have I0 : y_in (nI (8 * j + 0)) N := y_in_nI (by omega) (by omega)
    have Y1 : y_ix (nI (8 * j + 1)) = 8 * j + 1 := y_ix_nI (by omega)
    have I1 : y_in (nI (8 * j + 1)) N := y_in_nI (by omega) (by omega)
    have Y2 : y_ix (nI (8 * j + 2)) = 8 * j + 2 := y_ix_nI (by omega)
    have I2 : y_in (nI (8 * j + 2)) N := y_in_nI (by omega) (by omega)
    have Y3 : y_ix (nI (8 * j + 3)) = 8 * j + 3 := y_ix_nI (by omega)
    have I3 : y_in (nI (8 * j + 3)) N := y_in_nI (by omega) (by omega)
    have Y4 : y_ix (nI (8 * j + 4)) = 8 * j + 4 := y_ix_nI (by omega)
    have I4 : y_in (nI (8 * j + 4)) N := y_in_nI (by omega) (by omega)
    have Y5 : y_ix (nI (8 * j + 5)) = 8 * j + 5 := y_ix_nI (by omega)
    have I5 : y_in (nI (8 * j + 5)) N := y_in_nI (by omega) (by omega)
    have Y6 : y_ix (nI (8 * j + 6)) = 8 * j + 6 := y_ix_nI (by omega)
    have I6 : y_in (nI (8 * j + 6)) N := y_in_nI (by omega) (by omega)
    have Y7 : y_ix (nI (8 * j + 7)) = 8 * j + 7 := y_ix_nI (by omega)
    have I7 : y_in (nI (8 * j + 7)) N := y_in_nI (by omega) (by omega)
    have back : ∀ (S2 : xm_S) (A2 : y_A) (t2 : Nat), t2 ≤ t + 100 → lI S2 A2 t2 N F → xw 1001 182 18 [some (.inr (some (17, 0))), some (.inr (some (0, 0))), some (.inr (some (11, 0))), some (.inl (nI (8 * j + 8)))] [] S2 (fun r S' => r = some (.inl 1) ∧ ∃ A' t', kK S' A' t') := fun S2 A2 t2 h3 h4 => ih (j + 1) S2 A2 t2 (by omega) (by omega) (by omega) h4
    simp only [Nat.add_zero] at Y0 I0
    simp only [E1, E2, E3, E4, E5, E6, E7, E8, Y0, Y1, Y2, Y3, Y4, Y5, Y6, Y7, hF]
    obtain ⟨P0, P1, P2, P3, P4, P5, P6, P7, P8, P9, P10, P11, P12, P13, P14, P15, P16, P17, P18, P19, P20, P21, P22, P23, P24, P25, P26, P27, P28⟩ := hAll
    refine ⟨fun z => absurd z hex, fun _ => ⟨I0, ⟨fun _ => ?_, fun _ => ⟨fun _ => ?_, fun _ => ⟨fun _ => ?_, fun _ => ⟨fun _ => ?_, fun _ => ⟨fun _ => ?_, fun _ => ⟨fun _ => ?_, fun _ => ⟨fun _ => ?_, fun _ => ⟨fun _ => ?_, fun _ => ⟨fun _ => ?_, fun _ => ⟨fun _ => ?_, fun _ => ⟨fun _ => ?_, fun _ => ⟨fun _ => ?_, fun _ => ⟨fun _ => ?_, fun _ => ⟨fun _ => ?_, fun _ => ⟨fun _ => ?_, fun _ => ⟨fun _ => ?_, fun _ => ⟨fun _ => ?_, fun _ => ⟨fun _ => ?_, fun _ => ⟨fun _ => ?_, fun _ => ⟨fun _ => ?_, fun _ => ⟨fun _ => ?_, fun _ => ⟨fun _ => ?_, fun _ => ⟨fun _ => ?_, fun _ => ⟨fun _ => ?_, fun _ => ⟨fun _ => ?_, fun _ => ⟨fun _ => ?_, fun _ => ⟨fun _ => ?_, fun _ => ⟨fun _ => ?_, fun _ => ⟨fun _ => ?_, fun _ => ?_⟩⟩⟩⟩⟩⟩⟩⟩⟩⟩⟩⟩⟩⟩⟩⟩⟩⟩⟩⟩⟩⟩⟩⟩⟩⟩⟩⟩⟩⟩⟩
    · obtain ⟨f, A2, t2, ht2, hx⟩ := lw_case P0 (by decide) hI (by omega) [F (8 * j + 1), F (8 * j + 2), F (8 * j + 3)] rfl
      refine ⟨I1, ⟨I2, ⟨I3, xc.mono hx ?_⟩⟩⟩
      rintro r S1 ⟨rfl, hC1, h27, h17, hy⟩
      simp only [h17, h27]
      refine ⟨f, rfl, hC1, ⟨I1, ⟨I2, ⟨I3, xc.mono hy ?_⟩⟩⟩⟩
      rintro r S2 ⟨rfl, hC2, h4⟩
      exact ⟨f, rfl, hC2, fun _ => back S2 A2 t2 ht2 h4, fun z => absurd rfl z⟩
    · obtain ⟨f, A2, t2, ht2, hx⟩ := lw_case P1 (by decide) hI (by omega) [F (8 * j + 1), F (8 * j + 2), F (8 * j + 3), F (8 * j + 4), F (8 * j + 5)] rfl
      refine ⟨I1, ⟨I2, ⟨I3, ⟨I4, ⟨I5, xc.mono hx ?_⟩⟩⟩⟩⟩
      rintro r S1 ⟨rfl, hC1, h27, h17, hy⟩
      simp only [h17, h27]
      refine ⟨f, rfl, hC1, ⟨I1, ⟨I2, ⟨I3, ⟨I4, ⟨I5, xc.mono hy ?_⟩⟩⟩⟩⟩⟩
      rintro r S2 ⟨rfl, hC2, h4⟩
      exact ⟨f, rfl, hC2, fun _ => back S2 A2 t2 ht2 h4, fun z => absurd rfl z⟩
    · obtain ⟨f, A2, t2, ht2, hx⟩ := lw_case P2 (by decide) hI (by omega) [F (8 * j + 1), F (8 * j + 2), F (8 * j + 3), F (8 * j + 4), F (8 * j + 5)] rfl
      refine ⟨I1, ⟨I2, ⟨I3, ⟨I4, ⟨I5, xc.mono hx ?_⟩⟩⟩⟩⟩
      rintro r S1 ⟨rfl, hC1, h27, h17, hy⟩
      simp only [h17, h27]
      refine ⟨f, rfl, hC1, ⟨I1, ⟨I2, ⟨I3, ⟨I4, ⟨I5, xc.mono hy ?_⟩⟩⟩⟩⟩⟩
      rintro r S2 ⟨rfl, hC2, h4⟩
      exact ⟨f, rfl, hC2, fun _ => back S2 A2 t2 ht2 h4, fun z => absurd rfl z⟩
    · obtain ⟨f, A2, t2, ht2, hx⟩ := lw_case P3 (by decide) hI (by omega) [F (8 * j + 1), F (8 * j + 2), F (8 * j + 3), F (8 * j + 4), F (8 * j + 5)] rfl
      refine ⟨I1, ⟨I2, ⟨I3, ⟨I4, ⟨I5, xc.mono hx ?_⟩⟩⟩⟩⟩
      rintro r S1 ⟨rfl, hC1, h27, h17, hy⟩
      simp only [h17, h27]
      refine ⟨f, rfl, hC1, ⟨I1, ⟨I2, ⟨I3, ⟨I4, ⟨I5, xc.mono hy ?_⟩⟩⟩⟩⟩⟩
      rintro r S2 ⟨rfl, hC2, h4⟩
      exact ⟨f, rfl, hC2, fun _ => back S2 A2 t2 ht2 h4, fun z => absurd rfl z⟩
    · obtain ⟨f, A2, t2, ht2, hx⟩ := lw_case P4 (by decide) hI (by omega) [F (8 * j + 1)] rfl
      refine ⟨I1, xc.mono hx ?_⟩
      rintro r S1 ⟨rfl, hC1, h27, h17, hy⟩
      simp only [h17, h27]
      refine ⟨f, rfl, hC1, ⟨I1, xc.mono hy ?_⟩⟩
      rintro r S2 ⟨rfl, hC2, h4⟩
      exact ⟨f, rfl, hC2, fun _ => back S2 A2 t2 ht2 h4, fun z => absurd rfl z⟩
    · obtain ⟨f, A2, t2, ht2, hx⟩ := lw_case P5 (by decide) hI (by omega) [] rfl
      refine xc.mono hx ?_
      rintro r S1 ⟨rfl, hC1, h27, h17, hy⟩
      refine ⟨f, rfl, hC1, xc.mono hy ?_⟩
      rintro r S2 ⟨rfl, hC2, h4⟩
      exact ⟨f, rfl, hC2, fun _ => back S2 A2 t2 ht2 h4, fun z => absurd rfl z⟩
    · obtain ⟨f, A2, t2, ht2, hx⟩ := lw_case P6 (by decide) hI (by omega) [F (8 * j + 1), F (8 * j + 2), F (8 * j + 3), F (8 * j + 4), F (8 * j + 5)] rfl
      refine ⟨I1, ⟨I2, ⟨I3, ⟨I4, ⟨I5, xc.mono hx ?_⟩⟩⟩⟩⟩
      rintro r S1 ⟨rfl, hC1, h27, h17, hy⟩
      simp only [h17, h27]
      refine ⟨f, rfl, hC1, ⟨I1, ⟨I2, ⟨I3, ⟨I4, ⟨I5, xc.mono hy ?_⟩⟩⟩⟩⟩⟩
      rintro r S2 ⟨rfl, hC2, h4⟩
      exact ⟨f, rfl, hC2, fun _ => back S2 A2 t2 ht2 h4, fun z => absurd rfl z⟩
    · obtain ⟨f, A2, t2, ht2, hx⟩ := lw_case P7 (by decide) hI (by omega) [F (8 * j + 1)] rfl
      refine ⟨I1, xc.mono hx ?_⟩
      rintro r S1 ⟨rfl, hC1, h27, h17, hy⟩
      simp only [h17, h27]
      refine ⟨f, rfl, hC1, ⟨I1, xc.mono hy ?_⟩⟩
      rintro r S2 ⟨rfl, hC2, h4⟩
      exact ⟨f, rfl, hC2, fun _ => back S2 A2 t2 ht2 h4, fun z => absurd rfl z⟩
    · obtain ⟨f, A2, t2, ht2, hx⟩ := lw_case P8 (by decide) hI (by omega) [F (8 * j + 1)] rfl
      refine ⟨I1, xc.mono hx ?_⟩
      rintro r S1 ⟨rfl, hC1, h27, h17, hy⟩
      simp only [h17, h27]
      refine ⟨f, rfl, hC1, ⟨I1, xc.mono hy ?_⟩⟩
      rintro r S2 ⟨rfl, hC2, h4⟩
      exact ⟨f, rfl, hC2, fun _ => back S2 A2 t2 ht2 h4, fun z => absurd rfl z⟩
    · obtain ⟨f, A2, t2, ht2, hx⟩ := lw_case P9 (by decide) hI (by omega) [F (8 * j + 1), F (8 * j + 2), F (8 * j + 3), F (8 * j + 4), F (8 * j + 5), F (8 * j + 6), F (8 * j + 7)] rfl
      refine ⟨I1, ⟨I2, ⟨I3, ⟨I4, ⟨I5, ⟨I6, ⟨I7, xc.mono hx ?_⟩⟩⟩⟩⟩⟩⟩
      rintro r S1 ⟨rfl, hC1, h27, h17, hy⟩
      simp only [h17, h27]
      refine ⟨f, rfl, hC1, ⟨I1, ⟨I2, ⟨I3, ⟨I4, ⟨I5, ⟨I6, ⟨I7, xc.mono hy ?_⟩⟩⟩⟩⟩⟩⟩⟩
      rintro r S2 ⟨rfl, hC2, h4⟩
      exact ⟨f, rfl, hC2, fun _ => back S2 A2 t2 ht2 h4, fun z => absurd rfl z⟩
    · obtain ⟨f, A2, t2, ht2, hx⟩ := lw_case P10 (by decide) hI (by omega) [F (8 * j + 1)] rfl
      refine ⟨I1, xc.mono hx ?_⟩
      rintro r S1 ⟨rfl, hC1, h27, h17, hy⟩
      simp only [h17, h27]
      refine ⟨f, rfl, hC1, ⟨I1, xc.mono hy ?_⟩⟩
      rintro r S2 ⟨rfl, hC2, h4⟩
      exact ⟨f, rfl, hC2, fun _ => back S2 A2 t2 ht2 h4, fun z => absurd rfl z⟩
    · obtain ⟨f, A2, t2, ht2, hx⟩ := lw_case P11 (by decide) hI (by omega) [F (8 * j + 1), F (8 * j + 2)] rfl
      refine ⟨I1, ⟨I2, xc.mono hx ?_⟩⟩
      rintro r S1 ⟨rfl, hC1, h27, h17, hy⟩
      simp only [h17, h27]
      refine ⟨f, rfl, hC1, ⟨I1, ⟨I2, xc.mono hy ?_⟩⟩⟩
      rintro r S2 ⟨rfl, hC2, h4⟩
      exact ⟨f, rfl, hC2, fun _ => back S2 A2 t2 ht2 h4, fun z => absurd rfl z⟩
    · obtain ⟨f, A2, t2, ht2, hx⟩ := lw_case P12 (by decide) hI (by omega) [F (8 * j + 1), F (8 * j + 2), F (8 * j + 3)] rfl
      refine ⟨I1, ⟨I2, ⟨I3, xc.mono hx ?_⟩⟩⟩
      rintro r S1 ⟨rfl, hC1, h27, h17, hy⟩
      simp only [h17, h27]
      refine ⟨f, rfl, hC1, ⟨I1, ⟨I2, ⟨I3, xc.mono hy ?_⟩⟩⟩⟩
      rintro r S2 ⟨rfl, hC2, h4⟩
      exact ⟨f, rfl, hC2, fun _ => back S2 A2 t2 ht2 h4, fun z => absurd rfl z⟩
    · obtain ⟨f, A2, t2, ht2, hx⟩ := lw_case P13 (by decide) hI (by omega) [F (8 * j + 1), F (8 * j + 2)] rfl
      refine ⟨I1, ⟨I2, xc.mono hx ?_⟩⟩
      rintro r S1 ⟨rfl, hC1, h27, h17, hy⟩
      simp only [h17, h27]
      refine ⟨f, rfl, hC1, ⟨I1, ⟨I2, xc.mono hy ?_⟩⟩⟩
      rintro r S2 ⟨rfl, hC2, h4⟩
      exact ⟨f, rfl, hC2, fun _ => back S2 A2 t2 ht2 h4, fun z => absurd rfl z⟩
    · obtain ⟨f, A2, t2, ht2, hx⟩ := lw_case P14 (by decide) hI (by omega) [] rfl
      refine xc.mono hx ?_
      rintro r S1 ⟨rfl, hC1, h27, h17, hy⟩
      refine ⟨f, rfl, hC1, xc.mono hy ?_⟩
      rintro r S2 ⟨rfl, hC2, h4⟩
      exact ⟨f, rfl, hC2, fun _ => back S2 A2 t2 ht2 h4, fun z => absurd rfl z⟩
    · obtain ⟨f, A2, t2, ht2, hx⟩ := lw_case P15 (by decide) hI (by omega) [F (8 * j + 1)] rfl
      refine ⟨I1, xc.mono hx ?_⟩
      rintro r S1 ⟨rfl, hC1, h27, h17, hy⟩
      simp only [h17, h27]
      refine ⟨f, rfl, hC1, ⟨I1, xc.mono hy ?_⟩⟩
      rintro r S2 ⟨rfl, hC2, h4⟩
      exact ⟨f, rfl, hC2, fun _ => back S2 A2 t2 ht2 h4, fun z => absurd rfl z⟩
    · obtain ⟨f, A2, t2, ht2, hx⟩ := lw_case P16 (by decide) hI (by omega) [F (8 * j + 1), F (8 * j + 2)] rfl
      refine ⟨I1, ⟨I2, xc.mono hx ?_⟩⟩
      rintro r S1 ⟨rfl, hC1, h27, h17, hy⟩
      simp only [h17, h27]
      refine ⟨f, rfl, hC1, ⟨I1, ⟨I2, xc.mono hy ?_⟩⟩⟩
      rintro r S2 ⟨rfl, hC2, h4⟩
      exact ⟨f, rfl, hC2, fun _ => back S2 A2 t2 ht2 h4, fun z => absurd rfl z⟩
    · obtain ⟨f, A2, t2, ht2, hx⟩ := lw_case P17 (by decide) hI (by omega) [F (8 * j + 1), F (8 * j + 2)] rfl
      refine ⟨I1, ⟨I2, xc.mono hx ?_⟩⟩
      rintro r S1 ⟨rfl, hC1, h27, h17, hy⟩
      simp only [h17, h27]
      refine ⟨f, rfl, hC1, ⟨I1, ⟨I2, xc.mono hy ?_⟩⟩⟩
      rintro r S2 ⟨rfl, hC2, h4⟩
      exact ⟨f, rfl, hC2, fun _ => back S2 A2 t2 ht2 h4, fun z => absurd rfl z⟩
    · obtain ⟨f, A2, t2, ht2, hx⟩ := lw_case P18 (by decide) hI (by omega) [F (8 * j + 1), F (8 * j + 2)] rfl
      refine ⟨I1, ⟨I2, xc.mono hx ?_⟩⟩
      rintro r S1 ⟨rfl, hC1, h27, h17, hy⟩
      simp only [h17, h27]
      refine ⟨f, rfl, hC1, ⟨I1, ⟨I2, xc.mono hy ?_⟩⟩⟩
      rintro r S2 ⟨rfl, hC2, h4⟩
      exact ⟨f, rfl, hC2, fun _ => back S2 A2 t2 ht2 h4, fun z => absurd rfl z⟩
    · obtain ⟨f, A2, t2, ht2, hx⟩ := lw_case P19 (by decide) hI (by omega) [F (8 * j + 1), F (8 * j + 2)] rfl
      refine ⟨I1, ⟨I2, xc.mono hx ?_⟩⟩
      rintro r S1 ⟨rfl, hC1, h27, h17, hy⟩
      simp only [h17, h27]
      refine ⟨f, rfl, hC1, ⟨I1, ⟨I2, xc.mono hy ?_⟩⟩⟩
      rintro r S2 ⟨rfl, hC2, h4⟩
      exact ⟨f, rfl, hC2, fun _ => back S2 A2 t2 ht2 h4, fun z => absurd rfl z⟩
    · obtain ⟨f, A2, t2, ht2, hx⟩ := lw_case P20 (by decide) hI (by omega) [F (8 * j + 1), F (8 * j + 2)] rfl
      refine ⟨I1, ⟨I2, xc.mono hx ?_⟩⟩
      rintro r S1 ⟨rfl, hC1, h27, h17, hy⟩
      simp only [h17, h27]
      refine ⟨f, rfl, hC1, ⟨I1, ⟨I2, xc.mono hy ?_⟩⟩⟩
      rintro r S2 ⟨rfl, hC2, h4⟩
      exact ⟨f, rfl, hC2, fun _ => back S2 A2 t2 ht2 h4, fun z => absurd rfl z⟩
    · obtain ⟨f, A2, t2, ht2, hx⟩ := lw_case P21 (by decide) hI (by omega) [F (8 * j + 1), F (8 * j + 2)] rfl
      refine ⟨I1, ⟨I2, xc.mono hx ?_⟩⟩
      rintro r S1 ⟨rfl, hC1, h27, h17, hy⟩
      simp only [h17, h27]
      refine ⟨f, rfl, hC1, ⟨I1, ⟨I2, xc.mono hy ?_⟩⟩⟩
      rintro r S2 ⟨rfl, hC2, h4⟩
      exact ⟨f, rfl, hC2, fun _ => back S2 A2 t2 ht2 h4, fun z => absurd rfl z⟩
    · obtain ⟨f, A2, t2, ht2, hx⟩ := lw_case P22 (by decide) hI (by omega) [F (8 * j + 1)] rfl
      refine ⟨I1, xc.mono hx ?_⟩
      rintro r S1 ⟨rfl, hC1, h27, h17, hy⟩
      simp only [h17, h27]
      refine ⟨f, rfl, hC1, ⟨I1, xc.mono hy ?_⟩⟩
      rintro r S2 ⟨rfl, hC2, h4⟩
      exact ⟨f, rfl, hC2, fun _ => back S2 A2 t2 ht2 h4, fun z => absurd rfl z⟩
    · obtain ⟨f, A2, t2, ht2, hx⟩ := lw_case P23 (by decide) hI (by omega) [F (8 * j + 1), F (8 * j + 2), F (8 * j + 3)] rfl
      refine ⟨I1, ⟨I2, ⟨I3, xc.mono hx ?_⟩⟩⟩
      rintro r S1 ⟨rfl, hC1, h27, h17, hy⟩
      simp only [h17, h27]
      refine ⟨f, rfl, hC1, ⟨I1, ⟨I2, ⟨I3, xc.mono hy ?_⟩⟩⟩⟩
      rintro r S2 ⟨rfl, hC2, h4⟩
      exact ⟨f, rfl, hC2, fun _ => back S2 A2 t2 ht2 h4, fun z => absurd rfl z⟩
    · obtain ⟨f, A2, t2, ht2, hx⟩ := lw_case P24 (by decide) hI (by omega) [F (8 * j + 1), F (8 * j + 2)] rfl
      refine ⟨I1, ⟨I2, xc.mono hx ?_⟩⟩
      rintro r S1 ⟨rfl, hC1, h27, h17, hy⟩
      simp only [h17, h27]
      refine ⟨f, rfl, hC1, ⟨I1, ⟨I2, xc.mono hy ?_⟩⟩⟩
      rintro r S2 ⟨rfl, hC2, h4⟩
      exact ⟨f, rfl, hC2, fun _ => back S2 A2 t2 ht2 h4, fun z => absurd rfl z⟩
    · obtain ⟨f, A2, t2, ht2, hx⟩ := lw_case P25 (by decide) hI (by omega) [F (8 * j + 1)] rfl
      refine ⟨I1, xc.mono hx ?_⟩
      rintro r S1 ⟨rfl, hC1, h27, h17, hy⟩
      simp only [h17, h27]
      refine ⟨f, rfl, hC1, ⟨I1, xc.mono hy ?_⟩⟩
      rintro r S2 ⟨rfl, hC2, h4⟩
      exact ⟨f, rfl, hC2, fun _ => back S2 A2 t2 ht2 h4, fun z => absurd rfl z⟩
    · obtain ⟨f, A2, t2, ht2, hx⟩ := lw_case P26 (by decide) hI (by omega) [F (8 * j + 1), F (8 * j + 2)] rfl
      refine ⟨I1, ⟨I2, xc.mono hx ?_⟩⟩
      rintro r S1 ⟨rfl, hC1, h27, h17, hy⟩
      simp only [h17, h27]
      refine ⟨f, rfl, hC1, ⟨I1, ⟨I2, xc.mono hy ?_⟩⟩⟩
      rintro r S2 ⟨rfl, hC2, h4⟩
      exact ⟨f, rfl, hC2, fun _ => back S2 A2 t2 ht2 h4, fun z => absurd rfl z⟩
    · obtain ⟨f, A2, t2, ht2, hx⟩ := lw_case P27 (by decide) hI (by omega) [F (8 * j + 1), F (8 * j + 2)] rfl
      refine ⟨I1, ⟨I2, xc.mono hx ?_⟩⟩
      rintro r S1 ⟨rfl, hC1, h27, h17, hy⟩
      simp only [h17, h27]
      refine ⟨f, rfl, hC1, ⟨I1, ⟨I2, xc.mono hy ?_⟩⟩⟩
      rintro r S2 ⟨rfl, hC2, h4⟩
      exact ⟨f, rfl, hC2, fun _ => back S2 A2 t2 ht2 h4, fun z => absurd rfl z⟩
    · obtain ⟨f, A2, t2, ht2, hx⟩ := lw_case P28 (by decide) hI (by omega) [F (8 * j + 1)] rfl
      refine ⟨I1, xc.mono hx ?_⟩
      rintro r S1 ⟨rfl, hC1, h27, h17, hy⟩
      simp only [h17, h27]
      refine ⟨f, rfl, hC1, ⟨I1, xc.mono hy ?_⟩⟩
      rintro r S2 ⟨rfl, hC2, h4⟩
      exact ⟨f, rfl, hC2, fun _ => back S2 A2 t2 ht2 h4, fun z => absurd rfl z⟩
    · exact back S A t (by omega) hI
end
