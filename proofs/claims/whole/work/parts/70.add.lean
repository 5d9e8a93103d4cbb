/-! ===== A STATION, A FAULT, A SLOWNESS, A PLAN, AN ALARM MORE ===== -/
section
/-- list and kind: stations, faults, slownesses, plans, alarms; how many at most -/
def kLC (l c m : Nat) : Prop := (l = 0 ∧ c = 9 ∧ m = 8) ∨ (l = 1 ∧ c = 8 ∧ m = 30) ∨ (l = 2 ∧ c = 8 ∧ m = 30) ∨ (l = 10 ∧ c = 7 ∧ m = 12) ∨ (l = 11 ∧ c = 1 ∧ m = 10)
theorem k_bnd.add {S S' : xm_S} {l c m : Nat} (hlc : kLC l c m) (hsz : xm_n S 1 l < m) (p1 : ∀ q, xm_n S' 1 q = if q = l then xm_n S 1 l + 1 else xm_n S 1 q) (h : k_bnd S) : k_bnd S' := by
  unfold k_bnd at h ⊢
  rcases hlc with ⟨rfl, rfl, rfl⟩ | ⟨rfl, rfl, rfl⟩ | ⟨rfl, rfl, rfl⟩ | ⟨rfl, rfl, rfl⟩ | ⟨rfl, rfl, rfl⟩
  · have e := fun q (hq : q ≠ 0) => (p1 q).trans (if_neg hq)
    have e0 : xm_n S' 1 0 = xm_n S 1 0 + 1 := (p1 0).trans (if_pos rfl)
    rw [e0, e 1 (by decide), e 2 (by decide), e 3 (by decide), e 4 (by decide), e 5 (by decide), e 6 (by decide), e 7 (by decide), e 8 (by decide), e 9 (by decide), e 10 (by decide), e 11 (by decide)]
    omega
  · have e := fun q (hq : q ≠ 1) => (p1 q).trans (if_neg hq)
    have e0 : xm_n S' 1 1 = xm_n S 1 1 + 1 := (p1 1).trans (if_pos rfl)
    rw [e0, e 0 (by decide), e 2 (by decide), e 3 (by decide), e 4 (by decide), e 5 (by decide), e 6 (by decide), e 7 (by decide), e 8 (by decide), e 9 (by decide), e 10 (by decide), e 11 (by decide)]
    omega
  · have e := fun q (hq : q ≠ 2) => (p1 q).trans (if_neg hq)
    have e0 : xm_n S' 1 2 = xm_n S 1 2 + 1 := (p1 2).trans (if_pos rfl)
    rw [e0, e 0 (by decide), e 1 (by decide), e 3 (by decide), e 4 (by decide), e 5 (by decide), e 6 (by decide), e 7 (by decide), e 8 (by decide), e 9 (by decide), e 10 (by decide), e 11 (by decide)]
    omega
  · have e := fun q (hq : q ≠ 10) => (p1 q).trans (if_neg hq)
    have e0 : xm_n S' 1 10 = xm_n S 1 10 + 1 := (p1 10).trans (if_pos rfl)
    rw [e0, e 0 (by decide), e 1 (by decide), e 2 (by decide), e 3 (by decide), e 4 (by decide), e 5 (by decide), e 6 (by decide), e 7 (by decide), e 8 (by decide), e 9 (by decide), e 11 (by decide)]
    omega
  · have e := fun q (hq : q ≠ 11) => (p1 q).trans (if_neg hq)
    have e0 : xm_n S' 1 11 = xm_n S 1 11 + 1 := (p1 11).trans (if_pos rfl)
    rw [e0, e 0 (by decide), e 1 (by decide), e 2 (by decide), e 3 (by decide), e 4 (by decide), e 5 (by decide), e 6 (by decide), e 7 (by decide), e 8 (by decide), e 9 (by decide), e 10 (by decide)]
    omega
theorem k_obj.add {S S' : xm_S} {l c m : Nat} (hlc : kLC l c m) (p1 : ∀ q, xm_n S' 1 q = if q = l then xm_n S 1 l + 1 else xm_n S 1 q) (p3 : ∀ q, q < 100 → xm_n S' 0 q = if q = c then xm_n S 0 c + 1 else xm_n S 0 q) (h : k_obj S) : k_obj S' := by
  unfold k_obj at h ⊢
  rcases hlc with ⟨rfl, rfl, rfl⟩ | ⟨rfl, rfl, rfl⟩ | ⟨rfl, rfl, rfl⟩ | ⟨rfl, rfl, rfl⟩ | ⟨rfl, rfl, rfl⟩
  · have e := fun q (hq : q ≠ 0) => (p1 q).trans (if_neg hq)
    have f := fun q (h1 : q < 100) (hq : q ≠ 9) => (p3 q h1).trans (if_neg hq)
    have e0 : xm_n S' 1 0 = xm_n S 1 0 + 1 := (p1 0).trans (if_pos rfl)
    have f0 : xm_n S' 0 9 = xm_n S 0 9 + 1 := (p3 9 (by decide)).trans (if_pos rfl)
    rw [e0, f0, e 3 (by decide), e 4 (by decide), e 5 (by decide), e 6 (by decide), e 8 (by decide), e 9 (by decide), e 10 (by decide), e 11 (by decide), e 1 (by decide), e 2 (by decide), f 5 (by decide) (by decide), f 10 (by decide) (by decide), f 6 (by decide) (by decide), f 2 (by decide) (by decide), f 4 (by decide) (by decide), f 3 (by decide) (by decide), f 7 (by decide) (by decide), f 1 (by decide) (by decide), f 15 (by decide) (by decide), f 8 (by decide) (by decide), f 12 (by decide) (by decide), f 0 (by decide) (by decide), f 11 (by decide) (by decide), f 13 (by decide) (by decide), f 14 (by decide) (by decide)]
    omega
  · have e := fun q (hq : q ≠ 1) => (p1 q).trans (if_neg hq)
    have f := fun q (h1 : q < 100) (hq : q ≠ 8) => (p3 q h1).trans (if_neg hq)
    have e0 : xm_n S' 1 1 = xm_n S 1 1 + 1 := (p1 1).trans (if_pos rfl)
    have f0 : xm_n S' 0 8 = xm_n S 0 8 + 1 := (p3 8 (by decide)).trans (if_pos rfl)
    rw [e0, f0, e 0 (by decide), e 3 (by decide), e 4 (by decide), e 5 (by decide), e 6 (by decide), e 8 (by decide), e 9 (by decide), e 10 (by decide), e 11 (by decide), e 2 (by decide), f 9 (by decide) (by decide), f 5 (by decide) (by decide), f 10 (by decide) (by decide), f 6 (by decide) (by decide), f 2 (by decide) (by decide), f 4 (by decide) (by decide), f 3 (by decide) (by decide), f 7 (by decide) (by decide), f 1 (by decide) (by decide), f 15 (by decide) (by decide), f 12 (by decide) (by decide), f 0 (by decide) (by decide), f 11 (by decide) (by decide), f 13 (by decide) (by decide), f 14 (by decide) (by decide)]
    omega
  · have e := fun q (hq : q ≠ 2) => (p1 q).trans (if_neg hq)
    have f := fun q (h1 : q < 100) (hq : q ≠ 8) => (p3 q h1).trans (if_neg hq)
    have e0 : xm_n S' 1 2 = xm_n S 1 2 + 1 := (p1 2).trans (if_pos rfl)
    have f0 : xm_n S' 0 8 = xm_n S 0 8 + 1 := (p3 8 (by decide)).trans (if_pos rfl)
    rw [e0, f0, e 0 (by decide), e 3 (by decide), e 4 (by decide), e 5 (by decide), e 6 (by decide), e 8 (by decide), e 9 (by decide), e 10 (by decide), e 11 (by decide), e 1 (by decide), f 9 (by decide) (by decide), f 5 (by decide) (by decide), f 10 (by decide) (by decide), f 6 (by decide) (by decide), f 2 (by decide) (by decide), f 4 (by decide) (by decide), f 3 (by decide) (by decide), f 7 (by decide) (by decide), f 1 (by decide) (by decide), f 15 (by decide) (by decide), f 12 (by decide) (by decide), f 0 (by decide) (by decide), f 11 (by decide) (by decide), f 13 (by decide) (by decide), f 14 (by decide) (by decide)]
    omega
  · have e := fun q (hq : q ≠ 10) => (p1 q).trans (if_neg hq)
    have f := fun q (h1 : q < 100) (hq : q ≠ 7) => (p3 q h1).trans (if_neg hq)
    have e0 : xm_n S' 1 10 = xm_n S 1 10 + 1 := (p1 10).trans (if_pos rfl)
    have f0 : xm_n S' 0 7 = xm_n S 0 7 + 1 := (p3 7 (by decide)).trans (if_pos rfl)
    rw [e0, f0, e 0 (by decide), e 3 (by decide), e 4 (by decide), e 5 (by decide), e 6 (by decide), e 8 (by decide), e 9 (by decide), e 11 (by decide), e 1 (by decide), e 2 (by decide), f 9 (by decide) (by decide), f 5 (by decide) (by decide), f 10 (by decide) (by decide), f 6 (by decide) (by decide), f 2 (by decide) (by decide), f 4 (by decide) (by decide), f 3 (by decide) (by decide), f 1 (by decide) (by decide), f 15 (by decide) (by decide), f 8 (by decide) (by decide), f 12 (by decide) (by decide), f 0 (by decide) (by decide), f 11 (by decide) (by decide), f 13 (by decide) (by decide), f 14 (by decide) (by decide)]
    omega
  · have e := fun q (hq : q ≠ 11) => (p1 q).trans (if_neg hq)
    have f := fun q (h1 : q < 100) (hq : q ≠ 1) => (p3 q h1).trans (if_neg hq)
    have e0 : xm_n S' 1 11 = xm_n S 1 11 + 1 := (p1 11).trans (if_pos rfl)
    have f0 : xm_n S' 0 1 = xm_n S 0 1 + 1 := (p3 1 (by decide)).trans (if_pos rfl)
    rw [e0, f0, e 0 (by decide), e 3 (by decide), e 4 (by decide), e 5 (by decide), e 6 (by decide), e 8 (by decide), e 9 (by decide), e 10 (by decide), e 1 (by decide), e 2 (by decide), f 9 (by decide) (by decide), f 5 (by decide) (by decide), f 10 (by decide) (by decide), f 6 (by decide) (by decide), f 2 (by decide) (by decide), f 4 (by decide) (by decide), f 3 (by decide) (by decide), f 7 (by decide) (by decide), f 15 (by decide) (by decide), f 8 (by decide) (by decide), f 12 (by decide) (by decide), f 0 (by decide) (by decide), f 11 (by decide) (by decide), f 13 (by decide) (by decide), f 14 (by decide) (by decide)]
    omega
theorem kK.add {S S1 : xm_S} {A A' : y_A} {t c N l m : Nat} (h : kK S A t) (n : kN S S1 c N) (hlc : kLC l c m) (hsz : xm_n S 1 l < m) {c2 c100 c101 : Nat} {b : Nat → Nat → Nat} (hc2 : c2 ≠ 0) (hcap : (xm_n S 2 l = 1 ∧ c2 = 10) ∨ (xm_n S 1 l = xm_n S 2 l ∧ c2 ≤ 2 * xm_n S 1 l) ∨ (xm_n S 2 l ≠ 1 ∧ xm_n S 1 l ≠ xm_n S 2 l ∧ c2 = xm_n S 2 l))
    (a : ∀ x k, kOld S x k → A' x k = A x k) (hcnt' : k_cnt (xk_psh S1 l (c, xm_n S 0 c) c2 c100 c101 b) A')
    (s1 : l = 0 → ks (xk_psh S1 l (c, xm_n S 0 c) c2 c100 c101 b) A' (xm_n S 1 0)) (s7 : l = 10 → kp (xk_psh S1 l (c, xm_n S 0 c) c2 c100 c101 b) A' (xm_n S 1 10)) (s8 : l = 11 → ka (xk_psh S1 l (c, xm_n S 0 c) c2 c100 c101 b) A' (xm_n S 1 11)) (s11 : l = 1 → kw (xk_psh S1 l (c, xm_n S 0 c) c2 c100 c101 b) A' 1 6 (xm_n S 1 1)) (s12 : l = 2 → kw (xk_psh S1 l (c, xm_n S 0 c) c2 c100 c101 b) A' 2 12 (xm_n S 1 2))
    (pln : k_pln (xk_psh S1 l (c, xm_n S 0 c) c2 c100 c101 b) A' t 5000) : kK (xk_psh S1 l (c, xm_n S 0 c) c2 c100 c101 b) A' t := by
  have hc : c = 1 ∨ c = 7 ∨ c = 8 ∨ c = 9 := by unfold kLC at hlc; omega
  have hl12 : l = 0 ∨ l = 1 ∨ l = 2 ∨ l = 10 ∨ l = 11 := by unfold kLC at hlc; omega
  have hE := kExt.of n hc hl12 (c, xm_n S 0 c) c2 c100 c101 b
  obtain ⟨p1, p2, p3, p4⟩ := n.psh (l := l) hc (c, xm_n S 0 c) c2 c100 c101 b
  have ll : ∀ q i, xm_l (xk_psh S1 l (c, xm_n S 0 c) c2 c100 c101 b) q i = if q = l ∧ i = xm_n S 1 l then (c, xm_n S 0 c) else xm_l S q i := fun q i => by
    show xm_u2 (xm_l S1) l (xm_n S1 1 l) _ q i = _
    have n1 : xm_n S1 1 l = xm_n S 1 l := by
      rw [n.n, if_neg (by omega), if_neg (by omega), if_neg (by omega), if_neg (by omega), if_neg (by omega)]
    rw [n.2.1, n1]
    rfl
  have hKK := h
  obtain ⟨⟨⟨⟨hC, hcnt, hb, hl, ht, hv, h1, h2, h3, h4, h5, h6, h7, h8, h9, h10, h11, h12⟩, -⟩, -⟩, ⟨-, -, jown, jobj, jcap, -⟩⟩ := h
  have hO := jobj
  obtain ⟨o9, o5, o10, o6, o2, o4, o3, o7, o1, o15, o8, o12, o0, o11, o13, o14⟩ := jobj
  have rest : ∀ p q j, p ≠ c → xm_i (xk_psh S1 l (c, xm_n S 0 c) c2 c100 c101 b) p q j = xm_i S p q j ∧ xm_r (xk_psh S1 l (c, xm_n S 0 c) c2 c100 c101 b) p q j = xm_r S p q j := fun p q j hp => (n.1 p q j).resolve_left (fun z => hp z.1)
  generalize xk_psh S1 l (c, xm_n S 0 c) c2 c100 c101 b = S' at hE p1 p2 p3 p4 ll rest hcnt' s1 s7 s8 s11 s12 pln ⊢
  have q4 : xm_n S' 1 4 = xm_n S 1 4 := by rw [p1, if_neg (by omega)]
  have q3 : xm_n S' 1 3 = xm_n S 1 3 := by rw [p1, if_neg (by omega)]
  have q6 : xm_n S' 1 6 = xm_n S 1 6 := by rw [p1, if_neg (by omega)]
  have q12 : xm_n S' 0 12 = xm_n S 0 12 := by rw [p3 12 (by decide), if_neg (by omega)]
  have hbb := hb
  unfold k_bnd at hbb
  have hlc0 := hlc
  unfold kLC at hlc
  refine hKK.ext hE a (fun j hj => (rest 0 0 j (by omega)).2.trans (hC j hj)) hcnt' ?_ ?_ ⟨(rest 0 0 13 (by omega)).1.trans ((ht.1).trans (a 0 0 (by unfold kOld; omega)).symm), by rw [a 0 0 (by unfold kOld; omega)]; exact ht.2.1, by rw [q4]; exact (rest 0 0 12 (by omega)).2.trans ht.2.2⟩ ?_ (fun k h1 h2 => absurd h2 (by omega)) ?_ ?_ ?_ ?_ ?_ ?_ ?_ pln (rest 0 0 15 (by omega)).1 (fun g h1 h2 => absurd h2 (by omega)) (fun g h1 h2 => absurd h2 (by omega))
  · exact k_bnd.add hlc0 hsz p1 hb
  · have kl : ∀ j cj, (∀ k, k < xm_n S 1 j → xm_l S j k = (cj, k)) → (j = l → cj = c ∧ xm_n S 0 c = xm_n S 1 l) → ∀ k, k < xm_n S' 1 j → xm_l S' j k = (cj, k) := fun j cj w1 w2 k hk => by
      rw [ll]
      by_cases e : j = l ∧ k = xm_n S 1 l
      · rw [if_pos e, (w2 e.1).1, (w2 e.1).2, e.2]
      · rw [if_neg e]
        apply w1
        rw [p1] at hk
        split at hk
        · rename_i ejl
          have : k ≠ xm_n S 1 l := fun z => e ⟨ejl, z⟩
          rw [ejl]
          omega
        · exact hk
    refine ⟨kl 0 9 hl.1 ?_, kl 3 5 hl.2.1 ?_, kl 4 10 hl.2.2.1 ?_, kl 5 6 hl.2.2.2.1 ?_, kl 6 2 hl.2.2.2.2.1 ?_, kl 8 4 hl.2.2.2.2.2.1 ?_, kl 9 3 hl.2.2.2.2.2.2.1 ?_, kl 10 7 hl.2.2.2.2.2.2.2.1 ?_, kl 11 1 hl.2.2.2.2.2.2.2.2 ?_⟩
    · intro e; obtain rfl : c = 9 := by omega
      exact ⟨rfl, by rw [← e]; exact o9⟩
    · intro e; omega
    · intro e; omega
    · intro e; omega
    · intro e; omega
    · intro e; omega
    · intro e; omega
    · intro e; obtain rfl : c = 7 := by omega
      exact ⟨rfl, by rw [← e]; exact o7⟩
    · intro e; obtain rfl : c = 1 := by omega
      exact ⟨rfl, by rw [← e]; exact o1⟩
  · intro k w1 w2
    rw [p1] at w2
    split at w2
    · rename_i e
      rw [show k = xm_n S 1 0 by rw [← e] at w2; omega]
      exact s1 e.symm
    · omega
  · intro k w1 w2
    rw [p1] at w2
    split at w2
    · rename_i e
      rw [show k = xm_n S 1 10 by rw [← e] at w2; omega]
      exact s7 e.symm
    · omega
  · intro k w1 w2
    rw [p1] at w2
    split at w2
    · rename_i e
      rw [show k = xm_n S 1 11 by rw [← e] at w2; omega]
      exact s8 e.symm
    · omega
  · intro k w1 w2
    rw [p1] at w2
    split at w2
    · rename_i e
      rw [show k = xm_n S 1 1 by rw [← e] at w2; omega]
      exact s11 e.symm
    · omega
  · intro k w1 w2
    rw [p1] at w2
    split at w2
    · rename_i e
      rw [show k = xm_n S 1 2 by rw [← e] at w2; omega]
      exact s12 e.symm
    · omega
  · obtain ⟨w1, w2, w3⟩ := jown
    unfold k_own
    simp only [q3, q4, (rest 5 _ _ (by omega)).2, (rest 10 _ _ (by omega)).2]
    exact ⟨w1, w2, w3⟩
  · exact k_obj.add hlc0 p1 p3 hO
  · obtain ⟨w1, w2, w3⟩ := jcap
    unfold k_cap
    simp only [q12, q6, p2]
    refine ⟨fun j hj => ?_, fun j hj => ?_, fun j h1 h2 => ?_⟩
    · split
      · exact hc2
      · exact w1 j hj
    · split
      · have := w2 l (by omega)
        rcases hcap with z | z | z <;> omega
      · exact w2 j hj
    · rw [if_neg (by omega), p1, if_neg (by omega)]
      exact w3 j h1 h2
end
