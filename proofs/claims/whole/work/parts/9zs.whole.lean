/-! ===== THE LAW, FROM NOTHING (printed by wip/whole/gen9zs.py) ===== -/
section
set_option maxRecDepth 40000
theorem kK.zero {S : xm_S} (hC : xk_C S) (h1 : ∀ i, i < 13 → xm_n S 1 i = 0) (h2 : ∀ i, i < 13 → xm_n S 2 i = 1) (h0 : ∀ c, c ≤ 15 → c ≠ 0 → c ≠ 10 → c ≠ 11 → c ≠ 12 → c ≠ 13 → c ≠ 14 → xm_n S 0 c = 0) (e0 : xm_n S 0 0 = 1) (e10 : xm_n S 0 10 = 1) (e11 : xm_n S 0 11 = 1) (e12 : xm_n S 0 12 = 13) (e13 : xm_n S 0 13 = 85) (e14 : xm_n S 0 14 = 10) (r12 : xm_r S 0 0 12 = some 0) (r10 : xm_r S 10 0 0 = some 12) (i13 : xm_i S 0 0 13 = 0) (i15 : xm_i S 0 0 15 = 0) (hS : kS S) : kK S (fun _ _ => 0) 0 := by
  have n0 := h1 0 (by decide)
  have n1 := h1 1 (by decide)
  have n2 := h1 2 (by decide)
  have n3 := h1 3 (by decide)
  have n4 := h1 4 (by decide)
  have n5 := h1 5 (by decide)
  have n6 := h1 6 (by decide)
  have n7 := h1 7 (by decide)
  have n8 := h1 8 (by decide)
  have n9 := h1 9 (by decide)
  have n10 := h1 10 (by decide)
  have n11 := h1 11 (by decide)
  have n12 := h1 12 (by decide)
  have v : ∀ {p : Nat → Prop} {m : Nat}, m = 0 → ∀ k, k < m → p k := fun e k hk => absurd hk (by omega)
  have hkt : kt S (fun _ _ => 0) (xm_n S 1 4) 10 50 := by
    rw [n4]
    exact ⟨12, r10, by decide, by rw [e12]; decide, by rw [n12]; decide, by rw [n12]; rfl, fun i hi => absurd hi (by omega)⟩
  have hE : kE S (fun _ _ => 0) := by
    refine ⟨hC, ?_, ?_, ?_, ?_, ?_, v n0, v n6, v n3, v n8, v n9, v n5, v n10, v n11, hkt, v n4, v n1, v n2⟩
    · unfold k_cnt
      rw [n0, n1, n2, n3, n4, n5, n6, n8, n9, n10, n11]
      exact ⟨rfl, rfl, rfl, rfl, rfl, rfl, rfl, rfl, rfl, rfl, rfl⟩
    · unfold k_bnd
      rw [n0, n1, n2, n3, n4, n5, n6, n7, n8, n9, n10, n11]
      decide
    · exact ⟨v n0, v n3, v n4, v n5, v n6, v n8, v n9, v n10, v n11⟩
    · exact ⟨i13, by decide, by rw [n4]; exact r12⟩
    · exact ⟨v n7, fun i j c e _ hj => absurd hj (by omega), v n6⟩
  refine ⟨⟨⟨hE, v n5, v n6⟩, hS, v n3⟩, ?_⟩
  refine ⟨v n6, ?_, ?_, ?_, ?_, ?_, v n6, ?_, ?_, ?_, ?_, ?_, ?_, ?_, rfl, by decide, fun k _ hk => absurd hk (by omega), fun o ho => absurd ho (by omega)⟩
  · intro t q ht hq i j g e hi hj
    have ht0 : t = 0 := by omega
    rw [ht0, r10] at hq
    cases hq
    exact absurd hj (by omega)
  · exact ⟨fun g e q hg => absurd hg (by omega), fun t u q ht hu _ _ => by omega, fun g t q hg => absurd hg (by omega)⟩
  · unfold k_obj
    rw [h0 9 (by decide) (by decide) (by decide) (by decide) (by decide) (by decide) (by decide), h0 5 (by decide) (by decide) (by decide) (by decide) (by decide) (by decide) (by decide), h0 6 (by decide) (by decide) (by decide) (by decide) (by decide) (by decide) (by decide), h0 2 (by decide) (by decide) (by decide) (by decide) (by decide) (by decide) (by decide), h0 4 (by decide) (by decide) (by decide) (by decide) (by decide) (by decide) (by decide), h0 3 (by decide) (by decide) (by decide) (by decide) (by decide) (by decide) (by decide), h0 7 (by decide) (by decide) (by decide) (by decide) (by decide) (by decide) (by decide), h0 1 (by decide) (by decide) (by decide) (by decide) (by decide) (by decide) (by decide), h0 15 (by decide) (by decide) (by decide) (by decide) (by decide) (by decide) (by decide), h0 8 (by decide) (by decide) (by decide) (by decide) (by decide) (by decide) (by decide), e10, e12, e0, e11, e13, e14, n0, n1, n2, n3, n4, n5, n6, n8, n9, n10, n11]
    decide
  · refine ⟨fun j hj => ?_, fun j hj => ?_, fun j h12 hj => ?_⟩
    · rw [h2 j (by omega)]
      decide
    · rw [h2 j (by omega)]
      omega
    · exact Or.inl ⟨h2 j (by omega), h1 j (by omega)⟩
  · exact ⟨v n6, fun c p hc => absurd hc (by omega)⟩
  · intro g c hg
    exact absurd hg (by omega)
  · intro g q hg
    exact absurd hg (by omega)
  · exact ⟨fun k c z => z.elim, fun k g hk => absurd hk (by omega)⟩
  · exact ⟨fun k e hk => absurd hk (by omega), fun k g hk => absurd hk (by omega), fun k l hk => absurd hk (by omega)⟩
  · refine ⟨by omega, by omega, 0, i15, Nat.zero_le _, ?_, v n6⟩
    unfold k_hows
    rw [n6]
    rfl
  · unfold k_pot
    rw [n6]
    show 0 + 0 + 67 * 0 ≤ _
    omega
  · exact ⟨⟨v n0, v n1, v n2, v n5, v n10⟩, v n10⟩
/-- the start's store: nothing of the kinds 0 .. 15 is made; the static arrays, the script -/
def l0 (S : xm_S) (N : Nat) (F : Nat → Int32) : Prop := (∀ c, c ≤ 15 → xm_n S 0 c = 0) ∧ kS S ∧ 7 ≤ xm_n S 0 16 ∧ 1 ≤ xm_n S 0 17 ∧ xm_n S 27 0 = N ∧ ∀ j, xm_i S 17 0 j = F j
theorem l0.al {S : xm_S} {N : Nat} {F : Nat → Int32} (h : l0 S N F) : xm_al S := ⟨fun c k j e hc hk => absurd hk (by rw [h.1 c hc]; omega), fun k i hk => absurd hk (by rw [h.1 12 (by decide)]; omega), h.2.2.1⟩
theorem kMo_11 : ∀ x, x < 110 → (y_k x).1 = 11 → (y_k x).2.1 = 0 := by decide +kernel
theorem kMo.R {S0 S : xm_S} (h : kMo S0 S 110 85 10) : y_R S (fun _ _ => 0) [] := by
  have z : ∀ x, x < 110 → ∀ k, y_m S x k = 0 := fun x hx k => by
    unfold y_m
    rcases (h.2.2.1 x hx).2.2 with c | c | c
    · rw [if_neg (by omega)]
      exact ((h.2.2.1 x hx).2.1 (by omega)).2.2 k
    · rw [if_neg (by omega)]
      exact ((h.2.2.1 x hx).2.1 (by omega)).2.2 k
    · rw [if_pos c, c]
      have e : (y_k x).2.1 = 0 := kMo_11 x hx c
      rw [e]
      exact (h.2.2.1 x hx).1 c
  exact ⟨fun x hx hn => ⟨((h.2.2.1 x hx).2.1 hn).1, ((h.2.2.1 x hx).2.1 hn).2.1⟩, fun x hx _ k _ => z x hx k, z 88 (by decide) 0, by decide, fun k hk => absurd hk (by simp)⟩
theorem lw_whole {N : Nat} {F : Nat → Int32} (hN4 : N ≤ 4096) {S : xm_S} (h : l0 S N F) : xw 1001 182 0 [some (.inr (some (17, 0))), none, none, none] [] S (fun r S' => r = some (.inl 1) ∧ ∃ A' t', kK S' A' t') := by
  have hal := h.al
  obtain ⟨hz, hS, h16, h17, hN, hF⟩ := h
  refine cw_law trivial ?_
  intro k1 ek1 S3 e3
  rw [hz 0 (by decide)] at ek1
  subst ek1
  have n3 : ∀ p q, xm_n S3 p q = if p = 0 ∧ q = 0 then xm_n S 0 0 + 1 else if p = 0 ∧ q = 100 then xm_n S 0 100 + 1 else if p = 0 ∧ q = 101 then xm_n S 0 101 + 16 else if p = 10 + 0 ∧ q = xm_n S 0 0 then 16 else if 0 = 12 ∧ (p = 1 ∨ p = 2) ∧ q = xm_n S 0 12 then 0 else xm_n S p q := fun p q => by rw [e3]; rfl
  have al3 : xm_al S3 := by
    rw [e3]
    exact hal.mk 0 16 (by decide)
  have c3 : ∀ c, 1 ≤ c → c < 100 → xm_n S3 0 c = xm_n S 0 c := fun c hc hd => by rw [n3, if_neg (by omega), if_neg (by omega), if_neg (by omega), if_neg (by omega), if_neg (by omega)]
  have c30 : xm_n S3 0 0 = 1 := by rw [n3, if_pos ⟨rfl, rfl⟩, hz 0 (by decide)]
  have p3 : ∀ p q, 11 ≤ p → xm_n S3 p q = xm_n S p q := fun p q hp => by rw [n3, if_neg (by omega), if_neg (by omega), if_neg (by omega), if_neg (by omega), if_neg (by omega)]
  have i3 : ∀ p q r, 1 ≤ p → xm_i S3 p q r = xm_i S p q r := fun p q r hp => by rw [e3]; exact xi_mkn (N := 16) (fun z => by omega)
  refine xc.mono (xc.al al3 (xm_alst_ints (c := 0) (by decide) (by rw [c30]; decide) []) (c_new0 (d := 999) ((c3 12 (by decide) (by decide)).trans (hz 12 (by decide))))) ?_
  rintro r S5 ⟨⟨rfl, g12, g2, g10, gc, gp, gC, gr, gt, gi13, gi14, gi15, gf⟩, al5⟩
  refine ⟨rfl, gC, ?_⟩
  intro k7 ek7 S9 e9
  have c5 : ∀ c, c < 100 → 1 ≤ c → c ≠ 12 → c ≠ 10 → xm_n S5 0 c = xm_n S 0 c := fun c hc h1 h2 h3 => (gc c hc h2 h3).trans (c3 c h1 hc)
  have z11 : xm_n S5 0 11 = 0 := (c5 11 (by decide) (by decide) (by decide) (by decide)).trans (hz 11 (by decide))
  rw [z11] at ek7
  subst ek7
  have al9 : xm_al S9 := by
    rw [e9]
    exact al5.mk 11 110 (by decide)
  have n9 : ∀ p q, xm_n S9 p q = if p = 0 ∧ q = 11 then xm_n S5 0 11 + 1 else if p = 0 ∧ q = 100 then xm_n S5 0 100 + 1 else if p = 0 ∧ q = 101 then xm_n S5 0 101 + 110 else if p = 10 + 11 ∧ q = xm_n S5 0 11 then 110 else if 11 = 12 ∧ (p = 1 ∨ p = 2) ∧ q = xm_n S5 0 12 then 0 else xm_n S5 p q := fun p q => by rw [e9]; rfl
  have c9 : ∀ c, c ≠ 11 → c < 100 → xm_n S9 0 c = xm_n S5 0 c := fun c hc hd => by rw [n9, if_neg (by omega), if_neg (by omega), if_neg (by omega), if_neg (by omega), if_neg (by omega)]
  have c91 : xm_n S9 0 11 = 1 := by rw [n9, if_pos ⟨rfl, rfl⟩, z11]
  have p9 : ∀ p q, 1 ≤ p → p ≠ 21 → xm_n S9 p q = xm_n S5 p q := fun p q hp h2 => by rw [n9, if_neg (by omega), if_neg (by omega), if_neg (by omega), if_neg (by omega), if_neg (by omega)]
  have f9 : ∀ p q r, p ≠ 11 → xm_i S9 p q r = xm_i S5 p q r ∧ xm_r S9 p q r = xm_r S5 p q r := fun p q r hp => by
    rw [e9]
    exact ⟨xi_mkn (N := 110) (fun z => hp z.1), xr_mkn (N := 110) (fun z => hp z.1)⟩
  have z13 : xm_n S9 0 13 = 0 := (c9 13 (by decide) (by decide)).trans ((c5 13 (by decide) (by decide) (by decide) (by decide)).trans (hz 13 (by decide)))
  have z14 : xm_n S9 0 14 = 0 := (c9 14 (by decide) (by decide)).trans ((c5 14 (by decide) (by decide) (by decide) (by decide)).trans (hz 14 (by decide)))
  refine xc.mono (xc.al al9 (xm_alst_ints (c := 11) (by decide) (by rw [c91]; decide) []) (c_newM (d := 1000) z13 z14)) ?_
  rintro r T ⟨⟨rfl, hM⟩, alT⟩
  have hR := hM.R
  obtain ⟨m13, m14, -, mc, mp, mf, -⟩ := hM
  have fT : ∀ p q r, p ≠ 11 → p ≠ 13 → p ≠ 14 → xm_i T p q r = xm_i S5 p q r ∧ xm_r T p q r = xm_r S5 p q r := fun p q r h1 h2 h3 => ⟨(mf p q r h1 h2 h3).1.trans (f9 p q r h1).1, (mf p q r h1 h2 h3).2.trans (f9 p q r h1).2⟩
  have pT : ∀ p q, 1 ≤ p → p ≠ 21 → p ≠ 23 → p ≠ 24 → xm_n T p q = xm_n S5 p q := fun p q h1 h2 h3 h4 => (mp p q h1 h3 h4).trans (p9 p q h1 h2)
  have cT : ∀ c, c < 100 → c ≠ 11 → c ≠ 13 → c ≠ 14 → xm_n T 0 c = xm_n S5 0 c := fun c h1 h2 h3 h4 => (mc c h1 h3 h4).trans (c9 c h2 h1)
  have hCT : xk_C T := fun j hj => (fT 0 0 j (by decide) (by decide) (by decide)).2.trans (gC j hj)
  refine ⟨rfl, hCT, ?_⟩
  have pS : ∀ p q, 25 ≤ p → xm_n T p q = xm_n S p q := fun p q hp => (pT p q (by omega) (by omega) (by omega) (by omega)).trans ((gp p q hp).trans (p3 p q (by omega)))
  have iS : ∀ p q r, 15 ≤ p → xm_i T p q r = xm_i S p q r := fun p q r hp => (fT p q r (by omega) (by omega) (by omega)).1.trans ((gf p q r (by omega) (by omega) (by omega)).1.trans (i3 p q r (by omega)))
  have hST : kS T := fun k hk => ⟨(pS 26 k (by decide)).trans (hS k hk).1, fun j hj => (iS 16 k j (by decide)).trans ((hS k hk).2 j hj)⟩
  have z10 : xm_n S3 0 10 = 0 := (c3 10 (by decide) (by decide)).trans (hz 10 (by decide))
  rw [z10] at g10 gr gt
  have hK : kK T (fun _ _ => 0) 0 := kK.zero hCT (fun i hi => (pT 1 i (by decide) (by decide) (by decide) (by decide)).trans (g2 i hi).2) (fun i hi => (pT 2 i (by decide) (by decide) (by decide) (by decide)).trans (g2 i hi).1) (fun c hc h0 h10 h11 h12 h13 h14 => (cT c (by omega) h11 h13 h14).trans ((c5 c (by omega) (by omega) h12 h10).trans (hz c hc))) ((cT 0 (by decide) (by decide) (by decide) (by decide)).trans ((gc 0 (by decide) (by decide) (by decide)).trans c30)) ((cT 10 (by decide) (by decide) (by decide) (by decide)).trans g10) ((mc 11 (by decide) (by decide) (by decide)).trans c91) ((cT 12 (by decide) (by decide) (by decide) (by decide)).trans g12) m13 m14 ((fT 0 0 12 (by decide) (by decide) (by decide)).2.trans gr) ((fT 10 0 0 (by decide) (by decide) (by decide)).2.trans gt) ((fT 0 0 13 (by decide) (by decide) (by decide)).1.trans gi13) ((fT 0 0 15 (by decide) (by decide) (by decide)).1.trans gi15) hST
  have hI : lI T (fun _ _ => 0) 0 N F := ⟨hK, hR, alT, (pS 27 0 (by decide)).trans hN, fun j => (iS 17 0 j (by decide)).trans (hF j)⟩
  exact lw_loop p_all hN4 (N + 1) 0 T (fun _ _ => 0) 0 (by omega) (by omega) (by omega) hI
end
