/-! ===== A CALL ENDS: its own fields ===== -/
section
theorem kF.w {c g : Nat} {I R I' R' : List (Nat × Nat)} {Z Z' : List Nat} {S S' : xm_S} {A A' : y_A} (h : kF c g I R Z S S' A A') (hI : ∀ x ∈ I, x ∈ I') (hR : ∀ x ∈ R, x ∈ R') (hZ : ∀ x ∈ Z, x ∈ Z') : kF c g I' R' Z' S S' A A' := by
  obtain ⟨a1, a2, a3, a4, a5, a6⟩ := h
  exact ⟨a1, a2, fun p j hm => a3 p j (fun z => hm (hI _ z)), fun p j hm => a4 p j (fun z => hm (hR _ z)), fun x hm => a5 x (fun z => hm (hZ _ z)), a6⟩
theorem k_hows.s {S S' : xm_S} {c : Nat} {v : Int32} (n6 : xm_n S' 1 6 = xm_n S 1 6) (hc : c < xm_n S 1 6) (ho : ∀ k, k ≠ c → xm_i S' 2 k 8 = xm_i S 2 k 8) : k_hows S' v + (if xm_i S 2 c 8 = v then 1 else 0) = k_hows S v + (if xm_i S' 2 c 8 = v then 1 else 0) := by
  unfold k_hows
  rw [n6]
  exact xs_upd (f := fun k => if xm_i S 2 k 8 = v then 1 else 0) (g := fun k => if xm_i S' 2 k 8 = v then 1 else 0) hc (fun k hk => by simp only [ho k hk])
/-- a call that is under way has a parent under way that is not exempt -/
theorem k_sts.ne {S : xm_S} {A : y_A} {E B : Nat → Prop} {hb rb c p : Nat} (h : k_sts S A E B hb rb) (hc : c < xm_n S 1 6) (h0 : xm_i S 2 c 8 = 0) (hp : xm_r S 2 c 2 = some p) : ¬ E p := fun z => h.1 p c z hc hp h0
theorem kI.end {S S' : xm_S} {A A' : y_A} {X E : Nat → Prop} {hb rb nb t w e1 e2 e1' e2' c : Nat} (hE : kE S A) (h : kI S A X (fun k => E k ∨ k = c) (fun _ => False) hb rb nb t w e1 e2) (hF : kF c 0 [(2, 8), (2, 9), (2, 10), (2, 7), (0, 14)] [(2, 11)] [69, 70, 71, 68, 58, 59, 57, 60] S S' A A') (hc : c < xm_n S 1 6) (h0 : xm_i S 2 c 8 = 0) (h75 : ¬ A 75 c = 1) (hX : ¬ X c)
    (hh : (xm_i S' 2 c 8 = 1 ∧ e1 ≤ e1' + 1 ∧ e2 ≤ e2') ∨ (xm_i S' 2 c 8 = 2 ∧ (∃ f, xm_r S' 2 c 11 = some f) ∧ e1 ≤ e1' ∧ e2 ≤ e2' + 1)) (hof : ∀ o, o + w < xm_n S' 1 5 → kof S' A' o) :
    kI S' A' X (fun k => E k ∨ (xm_r S 2 c 2 = some k ∧ ∃ g, xm_r S 2 k 4 = some g ∧ A 31 g = 3)) (fun _ => False) hb rb nb t w e1' e2' := by
  obtain ⟨j1, j2, j3, j4, j5, j6, j7, j8, j9, j10, j11, j12, j13, j14, j15, j16, j17, j18⟩ := h
  have hFF := hF
  obtain ⟨a1, a2, a3, a4, a5, a6, -, a8, -⟩ := hF
  have n6 : xm_n S' 1 6 = xm_n S 1 6 := by rw [a1]
  have hne : xm_i S' 2 c 8 ≠ 0 := by
    rcases hh with z | z
    · rw [z.1]; decide
    · rw [z.1]; decide
  have i8 : ∀ k, k ≠ c → xm_i S' 2 k 8 = xm_i S 2 k 8 := fun k hk => (a6 k 8 hk).1
  have z8 : ∀ k, xm_i S' 2 k 8 = 0 → k ≠ c ∧ xm_i S 2 k 8 = 0 := fun k hk => by
    have : k ≠ c := fun z => hne (by rw [← z]; exact hk)
    exact ⟨this, by rw [← i8 k this]; exact hk⟩
  have act : ∀ k, k_act S' X k → k ≠ c ∧ k_act S X k := fun k hk => by
    rcases hk with z | z
    · exact ⟨(z8 k z).1, Or.inl (z8 k z).2⟩
    · exact ⟨fun y => hX (by rw [← y]; exact z), Or.inr z⟩
  have act2 : ∀ k, k ≠ c → k_act S X k → k_act S' X k := fun k hk z => by
    rcases z with z | z
    · exact Or.inl (by rw [i8 k hk]; exact z)
    · exact Or.inr z
  have I : ∀ j, (2, j) ∉ [(2, 8), (2, 9), (2, 10), (2, 7), (0, 14)] → ∀ k, xm_i S' 2 k j = xm_i S 2 k j := fun j hj k => a3 2 j hj k
  have R : ∀ j, (2, j) ∉ [(2, 11)] → ∀ k, xm_r S' 2 k j = xm_r S 2 k j := fun j hj k => a4 2 j hj k
  have gb := fun k (hk : k < xm_n S 1 6) => (hE.2.2.2.2.2.2.2.1 k hk).2.2.2.2.2.2.2.2.2.2.2.2.2.2.2.2.2.2.2.2.2.2.2.1
  refine ⟨?_, k_dst.F hFF (by decide) (by decide) j2, k_own.F hFF (by decide) (by decide) j3, k_obj.F hFF j4, k_cap.F hFF j5, k_chn.F hFF (by decide) (by decide) (by decide) (by decide) j6, ?_, ?_, ?_, ?_, ?_, ?_, k_pot.F hFF (by decide) (by decide) (by decide) (by decide) (by decide) (by decide) (by decide) (by decide) j13, k_pln.F hFF (by decide) (by decide) (by decide) (by decide) (by decide) (by decide) (by decide) (by decide) (by decide) (by decide) j14, (a5 0 (by decide) 0).trans j15, j16, ?_, hof⟩
  · intro k hk
    rw [n6] at hk
    obtain ⟨z1, z0, z2, e, z3, z4, z5⟩ := j1 k hk
    rw [R 2 (by decide), I 3 (by decide), R 1 (by decide), R 4 (by decide), R 6 (by decide)]
    refine ⟨fun y => ⟨(z1 y).1, fun o ho => (a4 6 6 (by decide) o).trans ((z1 y).2 o ho)⟩, z0, fun p hp => ?_, e, z3, z4, fun g o hg ho => ?_⟩
    · rw [R 1 (by decide), I 3 (by decide), R 4 (by decide)]
      obtain ⟨y1, y2, y3, y4⟩ := z2 p hp
      refine ⟨y1, y2, y3, fun y => ?_⟩
      obtain ⟨y5, y6⟩ := z8 k y
      have hpc : p ≠ c := fun z => j10.1 c k (Or.inr rfl) hk (by rw [← z]; exact hp) y6
      rw [i8 p hpc]
      exact y4 y6
    · obtain ⟨t', q, y1, y2, y3, y4⟩ := z5 g o hg ho
      exact ⟨t', q, (a4 6 1 (by decide) o).trans y1, (a4 10 0 (by decide) t').trans y2, by rw [a1]; exact y3, by rw [a2]; exact y4⟩
  · intro k hk
    rw [n6] at hk
    obtain ⟨z1, z2, z3, z4, z5, z6⟩ := j7 k hk
    simp only [R 4 (by decide), R 15 (by decide), a5 75 (by decide), a5 76 (by decide), a5 77 (by decide), a5 78 (by decide), a5 79 (by decide), a5 31 (by decide), a4 5 9 (by decide)]
    refine ⟨fun y => ?_, z2, z3, z4, z5, fun g hg y1 y2 => ?_⟩
    · have := z1 (act k y).2
      unfold k_rest at this ⊢
      rw [I 13 (by decide), a5 75 (by decide), a5 76 (by decide), R 15 (by decide)]
      exact this
    · exact z6 g hg (act k y1).2 (fun y => y2 (Or.inl (y.resolve_right (act k y1).1)))
  · intro g k hg hk
    rw [a1] at hg
    rw [a4 5 9 (by decide)] at hk
    obtain ⟨y1, y2, y3, y4, y5, y6⟩ := j8 g k hg hk
    have hkc : k ≠ c := fun z => y3 (Or.inr z)
    rw [n6, R 4 (by decide), a5 79 (by decide), a5 36 (by decide)]
    refine ⟨y1, act2 k hkc y2, fun z => ?_, y4, y5, y6⟩
    rcases z with z | ⟨-, g', z1, z2⟩
    · exact y3 (Or.inl z)
    · obtain ⟨g2, z3, z4⟩ := (j7 k y1).2.2.2.1 y5
      rw [z1] at z3
      cases z3
      rw [z2] at z4
      exact absurd z4 (by decide)
  · intro g q hg hq
    rw [a1] at hg
    rw [a4 5 12 (by decide)] at hq
    obtain ⟨z1, z2, z3⟩ := j9 g q hg hq
    rw [a1, a2]
    refine ⟨fun i k hi hk => ?_, z2, fun k hk y1 y2 y3 => ?_⟩
    · obtain ⟨y1, y2, y3, y4⟩ := z1 i k hi hk
      have hkc : k ≠ c := fun z => h75 (by rw [← z]; exact y3)
      rw [R 4 (by decide), a5 75 (by decide), I 16 (by decide)]
      exact ⟨act2 k hkc y1, y2, y3, y4⟩
    · rw [R 4 (by decide)] at y2
      rw [a5 75 (by decide)] at y3
      exact z3 k hk (act k y1).2 y2 y3
  · obtain ⟨z1, z2⟩ := j10
    refine ⟨fun k e hk he hp => ?_, fun k g hk hk0 hg => ?_⟩
    · rw [n6] at he
      rw [R 2 (by decide)] at hp
      by_cases hec : e = c
      · rw [hec]; exact hne
      · rw [i8 e hec]
        rcases hk with hk | ⟨hk1, g, hk2, hk3⟩
        · exact z1 k e (Or.inl hk) he hp
        · intro he0
          have hkn : k < xm_n S 1 6 := by
            have := (hE.2.2.2.2.2.2.2.1 c hc).2.2.2.2.2.2.2.2.2.2.2.2.2.2.2.2.2.2.2.2.2.2.2.2.2.1 k hk1
            omega
          have hk0 : xm_i S 2 k 8 = 0 := ((j1 c hc).2.2.1 k hk1).2.2.2 h0
          have hkE : ¬ (E k ∨ k = c) := fun z => z1 k c z hc hk1 h0
          obtain ⟨y1, l, y2, y3⟩ := (z2 k g hkn hk0 hk2).1 hkE (fun z => z) hk3
          have hl := (j6.1 k hkn).2.1 l y2
          obtain ⟨n, n1, n2, n3, n4⟩ := (j6.1 k hkn).2.2
          have hn1 : n = 1 := (nI_eq (a := n) (b := 1) (by omega) (by decide)).mp (n2.symm.trans y1)
          have hlb := ((n4 l y2).1).mp hn1
          have hone : ∀ x, x < xm_n S 1 6 → xm_r S 2 x 2 = some k → x = l := fun x hx hxp => by
            have x1 := hl.2.2 x hx hxp
            have x2 := (j6.2 l k hl.1 hl.2.1).1 hlb x hx hxp
            omega
          exact hec ((hone e he hp).trans (hone c hc hk1).symm)
    · rw [n6] at hk
      obtain ⟨hkc, hk0⟩ := z8 k hk0
      rw [R 4 (by decide)] at hg
      obtain ⟨y1, y6, y2, y3, y4, y5⟩ := z2 k g hk hk0 hg
      simp only [R 2 (by decide), R 17 (by decide), I 16 (by decide), n6, a5 31 (by decide), a5 76 (by decide), a5 73 (by decide), a5 32 (by decide), a5 72 (by decide), a5 0 (by decide)]
      refine ⟨fun x1 x0 x2 => ?_, fun x e he hp hl => ?_, fun x => ?_, y3, y4, y5⟩
      · obtain ⟨v1, l, v2, v3⟩ := y1 (fun z => x1 (Or.inl (z.resolve_right hkc))) x0 x2
        refine ⟨v1, l, v2, ?_⟩
        have hlc : l ≠ c := fun z => x1 (Or.inr ⟨by rw [← z]; exact ((j6.1 k hk).2.1 l v2).2.1, g, hg, x2⟩)
        rw [i8 l hlc]
        exact v3
      · have v := y6 x e he hp hl
        have hec : e ≠ c := fun z => by rw [z, h0] at v; exact absurd v (by decide)
        rw [i8 e hec]
        exact v
      · refine ⟨fun y => ⟨((y2 x).1 y).1, fun e he => ?_⟩, (y2 x).2⟩
        have v := ((y2 x).1 y).2 e he
        have hec : e ≠ c := fun z => by rw [z, h0] at v; exact absurd v (by decide)
        rw [i8 e hec]
        exact v
  · obtain ⟨z1, z2⟩ := j11
    unfold k_uni k_lik
    simp only [n6, R 4 (by decide), R 15 (by decide), R 1 (by decide), I 14 (by decide), I 16 (by decide), a4 6 2 (by decide), a3 6 3 (by decide), a3 6 4 (by decide), a3 5 1 (by decide)]
    exact ⟨fun k e hk he x1 x2 => z1 k e hk he (z8 k x1).2 (z8 e x2).2, z2⟩
  · obtain ⟨z1, z2, T, z3, z4, z5, z6⟩ := j12
    have s := fun v => k_hows.s (v := v) n6 hc i8
    have s1 := s 1
    have s2 := s 2
    have s3 := s 3
    rw [h0, if_neg (by decide)] at s1 s2 s3
    unfold k_num
    rw [a1]
    refine ⟨?_, ?_, T, (a3 0 15 (by decide) 0).trans z3, ?_, ?_, fun k hk => ⟨?_, fun y => ?_, fun y => ?_⟩⟩
    · rcases hh with ⟨w1, w2, w3⟩ | ⟨w1, w2, w3, w4⟩
      · rw [w1, if_neg (by decide)] at s2; omega
      · rw [w1, if_pos rfl] at s2; omega
    · rcases hh with ⟨w1, w2, w3⟩ | ⟨w1, w2, w3, w4⟩
      · rw [w1, if_pos rfl] at s1; omega
      · rw [w1, if_neg (by decide)] at s1; omega
    · rcases hh with ⟨w1, w2, w3⟩ | ⟨w1, w2, w3, w4⟩
      · rw [w1, if_neg (by decide)] at s3; omega
      · rw [w1, if_neg (by decide)] at s3; omega
    · have e3 : k_hows S' 3 = k_hows S 3 := by
        rcases hh with ⟨w1, w2, w3⟩ | ⟨w1, w2, w3, w4⟩
        · rw [w1, if_neg (by decide)] at s3; omega
        · rw [w1, if_neg (by decide)] at s3; omega
      rw [e3, a5 82 (by decide)]
      exact z5
    · rw [I 19 (by decide)]
      exact (z6 k hk).1
    · by_cases hkc : k = c
      · rcases hh with ⟨w1, w2, w3⟩ | ⟨w1, w2, w3, w4⟩
        · rw [hkc, w1] at y; exact absurd y (by decide)
        · rw [hkc]; exact w2
      · rw [i8 k hkc] at y
        rw [(a6 k 11 hkc).2]
        exact (z6 k hk).2.1 y
    · rw [(a6 k 10 (z8 k y).1).1]
      exact (z6 k hk).2.2 (z8 k y).2
  · intro k k1 k2
    rw [n6] at k2
    rw [a5 72 (by decide), a5 0 (by decide)]
    exact j17 k k1 k2
/-- how a call has ended: GOOD with an answer, or FAILED -/
def kEd (S S' : xm_S) (c : Nat) (h v b : Int32) : Prop := (∀ A, kF c 0 [(2, 8), (2, 9), (2, 10), (2, 7)] [(2, 11)] [] S S' A A) ∧ xm_i S' 2 c 8 = h ∧ xm_i S' 2 c 7 = xm_i S 0 0 13 ∧ (b = 0 ∨ b = 1) ∧ ((h = 1 ∧ xm_i S' 2 c 9 = v ∧ xm_i S' 2 c 10 = b ∧ xm_r S' 2 c 11 = xm_r S 2 c 11) ∨ (h = 2 ∧ xm_i S' 2 c 9 = xm_i S 2 c 9 ∧ xm_i S' 2 c 10 = xm_i S 2 c 10 ∧ b = 0 ∧ ∃ f, v = nI f ∧ xm_r S' 2 c 11 = some f ∧ f < xm_n S 1 8))
theorem kEd.g (S : xm_S) (c : Nat) {v b : Int32} (hb : b = 0 ∨ b = 1) : kEd S (xm_si (xm_si (xm_si (xm_si S 2 c 8 1) 2 c 9 v) 2 c 10 b) 2 c 7 (xm_i S 0 0 13)) c 1 v b := by
  refine ⟨fun A => ((((((kF.rf c 0 S A).si 2 c 8 _ (fun _ => rfl) (fun z => absurd z (by decide))).si 2 c 9 _ (fun _ => rfl) (fun z => absurd z (by decide))).si 2 c 10 _ (fun _ => rfl) (fun z => absurd z (by decide))).si 2 c 7 _ (fun _ => rfl) (fun z => absurd z (by decide))).w (by decide) (by decide) (by decide)), ?_, xi_same, hb, Or.inl ⟨rfl, ?_, ?_, rfl⟩⟩
  · exact (xi_si (by decide)).trans ((xi_si (by decide)).trans ((xi_si (by decide)).trans xi_same))
  · exact (xi_si (by decide)).trans ((xi_si (by decide)).trans xi_same)
  · exact (xi_si (by decide)).trans xi_same
theorem kEd.f (S : xm_S) (c : Nat) {f : Nat} (hf : f < xm_n S 1 8) : kEd S (xm_si (xm_sr (xm_si S 2 c 8 2) 2 c 11 (some f)) 2 c 7 (xm_i S 0 0 13)) c 2 (nI f) 0 := by
  refine ⟨fun A => (((((kF.rf c 0 S A).si 2 c 8 _ (fun _ => rfl) (fun z => absurd z (by decide))).sr 2 c 11 _ (fun _ => rfl) (fun z => absurd z (by decide))).si 2 c 7 _ (fun _ => rfl) (fun z => absurd z (by decide))).w (by decide) (by decide) (by decide)), ?_, xi_same, Or.inl rfl, Or.inr ⟨rfl, ?_, ?_, rfl, f, rfl, ?_, hf⟩⟩
  · exact (xi_si (by decide)).trans (xi_sr.trans xi_same)
  · exact (xi_si (by decide)).trans (xi_sr.trans (xi_si (by decide)))
  · exact (xi_si (by decide)).trans (xi_sr.trans (xi_si (by decide)))
  · exact xr_si.trans xr_same
/-- the reference's fields of the call -/
def kA1 (A : y_A) (c : Nat) (h v b : Int32) : y_A := xm_u2 (xm_u2 (xm_u2 (xm_u2 A 69 c h) 70 c v) 71 c b) 68 c (A 0 0)
theorem kA1.F {c : Nat} {I R : List (Nat × Nat)} {S S' : xm_S} {A : y_A} (h : kF c 0 I R [] S S' A A) (hw v b : Int32) : kF c 0 I R [69, 70, 71, 68] S S' A (kA1 A c hw v b) := ((((h.u 69 c _ (fun _ => rfl) (fun z => absurd z.2 (by decide))).u 70 c _ (fun _ => rfl) (fun z => absurd z.2 (by decide))).u 71 c _ (fun _ => rfl) (fun z => absurd z.2 (by decide))).u 68 c _ (fun _ => rfl) (fun z => absurd z.2 (by decide))).w (fun _ z => z) (fun _ z => z) (by decide)
theorem kA1.v (A : y_A) (c : Nat) (h v b : Int32) : kA1 A c h v b 69 c = h ∧ kA1 A c h v b 70 c = v ∧ kA1 A c h v b 71 c = b ∧ kA1 A c h v b 68 c = A 0 0 := ⟨y_same _ _ _ _, y_same _ _ _ _, y_same _ _ _ _, y_same _ _ _ _⟩
theorem kF.kcS {c : Nat} {Z : List Nat} {S S' : xm_S} {A A' : y_A} (h : kF c 0 [(2, 8), (2, 9), (2, 10), (2, 7), (0, 14)] [(2, 11)] Z S S' A A') : kcS S S' c := by
  obtain ⟨a1, a2, a3, a4, a5, a6, -⟩ := h
  refine ⟨a1, a2, fun p q j => ?_, fun p q j => ?_⟩
  · by_cases h2 : p = 2
    · by_cases hq : q = c
      · exact Or.inl ⟨h2, hq⟩
      · subst h2; exact Or.inr (Or.inr (a6 q j hq).1)
    · by_cases h0 : p = 0
      · by_cases hj : j = 13
        · subst h0 hj; exact Or.inr (Or.inr (a3 0 13 (by decide) q))
        · exact Or.inr (Or.inl ⟨h0, hj⟩)
      · refine Or.inr (Or.inr (a3 p j ?_ q))
        simp only [List.mem_cons, Prod.mk.injEq, List.not_mem_nil, or_false, h2, h0, false_and, not_false_eq_true]
  · by_cases h2 : p = 2
    · by_cases hq : q = c
      · exact Or.inl ⟨h2, hq⟩
      · subst h2; exact Or.inr (Or.inr (a6 q j hq).2)
    · refine Or.inr (Or.inr (a4 p j ?_ q))
      simp only [List.mem_cons, Prod.mk.injEq, List.not_mem_nil, or_false, h2, false_and, not_false_eq_true]
/-- the call's equations behind its end -/
theorem kEd.call {S S' S'' : xm_S} {A A' : y_A} {c : Nat} {h v b : Int32} (ht : xm_i S 0 0 13 = A 0 0) (hd : kEd S S' c h v b) (hc : kc S A c) (h0 : xm_i S 2 c 8 = 0) (h10 : xm_i S 2 c 10 = 0) (hF : kF c 0 [(2, 8), (2, 9), (2, 10), (2, 7), (0, 14)] [(2, 11)] [69, 70, 71, 68, 58, 59, 57, 60] S S'' A A') (e8 : xm_i S'' 2 c 8 = xm_i S' 2 c 8) (e7 : xm_i S'' 2 c 7 = xm_i S' 2 c 7) (e9 : xm_i S'' 2 c 9 = xm_i S' 2 c 9) (e10 : xm_i S'' 2 c 10 = xm_i S' 2 c 10) (e11 : xm_r S'' 2 c 11 = xm_r S' 2 c 11)
    (hv : A' 69 c = h ∧ A' 70 c = v ∧ A' 71 c = b ∧ A' 68 c = A 0 0) : kc S'' A' c := by
  obtain ⟨a1, a2, a3, a4, a5, -⟩ := hF
  obtain ⟨-, d1, d2, d3, d4⟩ := hd
  obtain ⟨v1, v2, v3, v4⟩ := hv
  obtain ⟨z1, z2, z3, z4, z5, z6, z7, z8, z9, z10, z11, z12, z13, z14, z15, z16, z17, z18, z19, z20, z21, z22, z23, z24, z25, z26, z27, z28⟩ := hc
  have w0 : A 69 c = 0 := by rw [← z5]; exact h0
  rw [w0, if_neg (by decide)] at z15 z16
  unfold kc
  simp only [a1, a3 2 0 (by decide), a3 2 3 (by decide), a3 2 5 (by decide), a3 2 12 (by decide), a3 2 14 (by decide), a3 2 16 (by decide), a4 2 1 (by decide), a4 2 2 (by decide), a4 2 4 (by decide), a4 2 6 (by decide), a4 2 15 (by decide), a5 62 (by decide), a5 63 (by decide), a5 64 (by decide), a5 65 (by decide), a5 66 (by decide), a5 67 (by decide), a5 72 (by decide), a5 73 (by decide), a5 74 (by decide), a5 75 (by decide), a5 76 (by decide), a5 77 (by decide), a5 78 (by decide), a5 79 (by decide), e8, e7, e9, e10, e11, v1, v2, v3, v4]
  refine ⟨z1, z2, z3, d2.trans ht, d1, ?_, z7, z8, z9, z10, z11, z12, z13, z14, ?_, ?_, d3, z18, z19, z20, z21, z22, ?_, z24, z25, z26, z27, ?_⟩
  · rcases d4 with ⟨-, -, w, -⟩ | ⟨-, -, w, w2, -⟩
    · exact w
    · rw [w, h10, w2]
  · rcases d4 with ⟨w1, w2, -, -⟩ | ⟨w1, w2, -, -⟩
    · rw [w1, if_pos rfl]; exact w2
    · rw [w1, if_neg (by decide), w2]; exact z15
  · rcases d4 with ⟨w1, -, -, w2⟩ | ⟨w1, -, -, -, f, w2, w3, w4⟩
    · rw [w1, if_neg (by decide), w2]; exact z16
    · rw [w1, if_pos rfl, w3, w2]; rfl
  · rcases d4 with ⟨w1, -⟩ | ⟨w1, -⟩
    · exact Or.inr (Or.inl w1)
    · exact Or.inr (Or.inr (Or.inl w1))
  · rcases d4 with ⟨-, -, -, w2⟩ | ⟨-, -, -, -, f, w2, w3, w4⟩
    · rw [w2]; exact z28
    · rw [w3]; intro f' hf; cases hf; exact w4
/-- an inner call ends -/
theorem kM.end {S S' : xm_S} {A : y_A} {X E : Nat → Prop} {hb rb nb t w e1 e2 e1' e2' c p : Nat} {hw v b : Int32} (h : kM S A X (fun k => E k ∨ k = c) (fun _ => False) hb rb nb t w e1 e2) (hd : kEd S S' c hw v b) (hc : c < xm_n S 1 6) (h0 : xm_i S 2 c 8 = 0) (h75 : ¬ A 75 c = 1) (hX : ¬ X c) (hp : xm_r S 2 c 2 = some p) (he : (hw = 1 ∧ e1 ≤ e1' + 1 ∧ e2 ≤ e2') ∨ (hw = 2 ∧ e1 ≤ e1' ∧ e2 ≤ e2' + 1)) :
    kM S' (kA1 A c hw v b) X (fun k => E k ∨ (xm_r S 2 c 2 = some k ∧ ∃ g, xm_r S 2 k 4 = some g ∧ A 31 g = 3)) (fun _ => False) hb rb nb t w e1' e2' := by
  obtain ⟨hE, hS, hgr, hI⟩ := h
  have hF0 := kA1.F (hd.1 A) hw v b
  have hF := hF0.w (I' := [(2, 8), (2, 9), (2, 10), (2, 7), (0, 14)]) (R' := [(2, 11)]) (Z' := [69, 70, 71, 68, 58, 59, 57, 60]) (by decide) (by decide) (by decide)
  have hcc := hE.2.2.2.2.2.2.2.1 c hc
  have h10 := (hI.2.2.2.2.2.2.2.2.2.2.2.1).2.2.choose_spec.2.2.2 c hc
  have hkc := hd.call hE.2.2.2.2.1.1 hcc h0 (h10.2.2 h0) hF rfl rfl rfl rfl rfl (kA1.v A c hw v b)
  have h69 : A 69 c = 0 := by rw [← hcc.2.2.2.2.1]; exact h0
  have hne : xm_i S' 2 c 8 ≠ 0 := by
    rw [hd.2.1]
    rcases he with z | z
    · rw [z.1]; decide
    · rw [z.1]; decide
  refine ⟨hE.call hF.kcS (fun x k => ?_) hkc (fun z => absurd (h69.symm.trans z) (by decide)) (fun z => absurd z hne), kS.F hF (by decide) hS, fun g hg => ?_, kI.end hE hI hF hc h0 h75 hX ?_ (fun o ho => ?_)⟩
  · by_cases hx : x = 69 ∨ x = 70 ∨ x = 71 ∨ x = 68
    · by_cases hk : k = c
      · exact Or.inl ⟨by omega, by omega, hk⟩
      · exact Or.inr (Or.inr (Or.inr (hF0.2.2.2.2.2.2.2.1 x k (by omega) hk)))
    · refine Or.inr (Or.inr (Or.inr (hF0.2.2.2.2.1 x ?_ k)))
      simp only [List.mem_cons, List.not_mem_nil, or_false]
      exact hx
  · rw [hF.1] at hg
    exact kgr.F hF (by decide) (by decide) (by decide) (by decide) (by decide) (by decide) (hgr g hg)
  · rcases he with ⟨z1, z2, z3⟩ | ⟨z1, z2, z3⟩
    · exact Or.inl ⟨hd.2.1.trans z1, z2, z3⟩
    · refine Or.inr ⟨hd.2.1.trans z1, ?_, z2, z3⟩
      rcases hd.2.2.2.2 with w | ⟨-, -, -, -, f, -, w, -⟩
      · rw [w.1] at z1; exact absurd z1 (by decide)
      · exact ⟨f, w⟩
  · rw [hF.1] at ho
    obtain ⟨f, y1, y2, y3, y4, y5, y6, y7, y8⟩ := hI.2.2.2.2.2.2.2.2.2.2.2.2.2.2.2.2.2 o ho
    have hfc : f ≠ c := fun z => by rw [z, hp] at y4; cases y4
    obtain ⟨a1, a2, a3, a4, a5, a6, -, a8, -⟩ := hF0
    refine ⟨f, (a4 6 6 (by decide) o).trans y1, by rw [a1]; exact y2, (a4 2 1 (by decide) f).trans y3, (a4 2 2 (by decide) f).trans y4, ?_, ?_, ?_, ?_⟩
    · rw [a5 58 (by decide), a8 69 f (by decide) hfc, a8 71 f (by decide) hfc]; exact y5
    · rw [a5 59 (by decide), a8 69 f (by decide) hfc, a8 70 f (by decide) hfc]; exact y6
    · rw [a5 56 (by decide), a8 67 f (by decide) hfc]; exact y7
    · rw [a5 57 (by decide), a8 68 f (by decide) hfc]; exact y8
end
