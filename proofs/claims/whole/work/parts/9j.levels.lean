/-! ===== N-MODE AT EVERY DEPTH; ENDJOINED (printed by wip/whole/gen9j.py) ===== -/
section
theorem kTB.N {d : Nat} : kTB True (d + 2) := by
  intro S A X E hb rb nb t w c p o rest hM hc h0 hp hpo hX hD hN hlen
  have h2 := hM.1.2.2.2.2.2.2.2.1
  have hpk : ∀ k p, k < xm_n S 1 6 → xm_r S 2 k 2 = some p → p < k := fun k p hk hp => (h2 k hk).2.2.2.2.2.2.2.2.2.2.2.2.2.2.2.2.2.2.2.2.2.2.2.2.2.1 p hp
  have hco : xm_r S 2 c 1 = some o := ((hM.2.2.2.1 c hc).2.2.1 p hp).1.symm.trans hpo
  obtain ⟨A1, J1, v, b1, b2, b3⟩ := c_takeBackN (d := d) (rest := rest) hM hc h0 hp (fun e he => (hX e he).2) hD (fun e he => by
    have z := (h2 e he.1).2.2.2.2.2.2.2.1
    rcases (h2 e he.1).2.2.2.2.2.2.2.2.2.2.2.2.2.2.2.2.2.1 with y | y
    · rw [z]; exact y
    · exact absurd ((kT.ord hM e he).trans hco) (hN trivial e he.1 ((kT.i hpk he.1).mp he).1 (by rw [z]; exact y))) (by omega)
  refine ⟨A1, J1, v, b1, b2, xc.mono b3 ?_⟩
  rintro r S' ⟨x, w1, w2, A', w3, w4, w5, w6, w7, w8⟩
  exact ⟨x, w1, w2, A', w3, w4, w5, w6⟩
theorem kTJ.N {D e : Nat} : kTJ True D e := by
  intro S A X E hb rb nb t w p c o g rest hM h1 h2 h3 h4 h5 h6 h7 h8 h9
  exact absurd h7 (h8 trivial p h2 h4 h9)
theorem kTN.up {Nm : Prop} {D D' e : Nat} {s : Int32} (h : kTN Nm D e s) (hd : D ≤ D') : kTN Nm D' e s := by
  intro S A X E hb rb nb t w p c o g rest a1 a2 a3 a4 a5 a6 a7 a8 a9 a10 a11
  obtain ⟨A2, js2, b1, b2, b3⟩ := h S A X E hb rb nb t w p c o g rest a1 a2 a3 a4 a5 a6 a7 a8 a9 a10 a11
  exact ⟨A2, js2, b1, b2, xc.up b3 hd⟩
theorem kTN.all {Nm : Prop} {D e : Nat} (hD : 1 ≤ D) (IH : kEN Nm D e) (hTB : kTB Nm (D + 1)) : ∀ s, kTN Nm (D + 4) e s := by
  intro s
  by_cases c0 : s = 0
  · rw [c0]; exact (kTN.s0 IH).up (by omega)
  by_cases c1 : s = 1
  · rw [c1]; exact (kTN.s1 IH).up (by omega)
  by_cases c2 : s = 2
  · rw [c2]; exact (kTN.s2 IH).up (by omega)
  by_cases c3 : s = 3
  · rw [c3]; exact (kTN.s3 IH).up (by omega)
  by_cases c4 : s = 4
  · rw [c4]; exact (kTN.s4 IH).up (by omega)
  by_cases c5 : s = 5
  · rw [c5]; exact (kTN.s5 hD IH hTB).up (by omega)
  by_cases c6 : s = 6
  · rw [c6]; exact kTN.s6 IH
  by_cases c7 : s = 7
  · rw [c7]; exact (kTN.s7 IH).up (by omega)
  by_cases c8 : s = 8
  · rw [c8]; exact kTN.s8
  by_cases c9 : s = 9
  · rw [c9]; exact (kTN.s9 IH).up (by omega)
  intro S A X E hb rb nb t w p c o g rest hM hT hX hDd hEp hg hs hon hch hlat hlen
  exfalso
  have hgn := hM.gb p g hT.2.1 hg
  obtain ⟨r1, r2⟩ := (hM.2.2.1 g hgn).1
  rw [hs] at r1 r2
  obtain ⟨z, z1, z2, z3⟩ := k_rg (x := s) (a := 0) (b := 9) (by decide) r1 r2
  obtain rfl | rfl | rfl | rfl | rfl | rfl | rfl | rfl | rfl | rfl : z = 0 ∨ z = 1 ∨ z = 2 ∨ z = 3 ∨ z = 4 ∨ z = 5 ∨ z = 6 ∨ z = 7 ∨ z = 8 ∨ z = 9 := by omega
  · exact c0 z1
  · exact c1 z1
  · exact c2 z1
  · exact c3 z1
  · exact c4 z1
  · exact c5 z1
  · exact c6 z1
  · exact c7 z1
  · exact c8 z1
  · exact c9 z1
theorem kEN.N : ∀ e, kEN True (6 * e + 2) e
  | 0 => kEN.of (D := 0) (fun ep h => absurd h (by omega))
  | e + 1 => by
    have ih := kEN.N e
    have := kEN.of (Nm := True) (D := 6 * e + 2 + 4) (e := e + 1) (fun ep h => by
      obtain rfl : ep = e := by omega
      exact ⟨kTN.all (by omega) ih (kTB.N (d := 6 * ep + 1)), kTJ.N⟩)
    exact this.up (by omega)
theorem k_fj_no {A : y_A} {n L : Nat} {af : Int32} {js : List y_J} (h61 : A 61 0 = nI n) (hn : n ≤ 4400) : ∀ (r k N : Nat), k + r = n → r < N → (∀ e, k ≤ e → e < n → ¬ (A 74 e = nI L ∧ A 69 e = 0)) → rf_freeJoined_4 N (nI L) af (nI k) A js = (A, js) ∧ rg_freeJoined_4 N (nI L) af (nI k) A js := by
  intro r
  induction r with
  | zero =>
    intro k N hk hN hno
    obtain ⟨N, rfl⟩ : ∃ j, N = j + 1 := ⟨N - 1, by omega⟩
    have cc : nI n ≤ nI k := nI_le (by omega) (by omega)
    unfold rf_freeJoined_4 rg_freeJoined_4
    rw [h61, if_pos cc]
    exact ⟨rfl, fun _ => trivial, fun z => absurd cc z⟩
  | succ r ih =>
    intro k N hk hN hno
    obtain ⟨N, rfl⟩ : ∃ j, N = j + 1 := ⟨N - 1, by omega⟩
    have cc : ¬ nI n ≤ nI k := nI_ge (by omega) (by omega)
    have ixk : y_ix (nI k) = k := y_ix_nI (by omega)
    have yk : y_in (nI k) 4400 := y_in_nI (by omega) (by decide)
    obtain ⟨i1, i2⟩ := ih (k + 1) N (by omega) (by omega) (fun e e1 e2 => hno e (by omega) e2)
    have hk' := hno k (Nat.le_refl _) (by omega)
    unfold rf_freeJoined_4 rg_freeJoined_4
    rw [h61, if_neg cc, ixk, nI_1]
    by_cases c1 : A 74 k = nI L
    · have c2 : ¬ A 69 k = 0 := fun z => hk' ⟨c1, z⟩
      rw [if_pos c1, if_neg c2]
      exact ⟨i1, fun z => absurd z cc, fun _ => ⟨yk, fun _ => ⟨fun z => absurd z c2, fun _ => i2⟩, fun z => absurd c1 z⟩⟩
    · rw [if_neg c1]
      exact ⟨i1, fun z => absurd z cc, fun _ => ⟨yk, fun z => absurd z c1, fun _ => i2⟩⟩
theorem k_fj_hit {A : y_A} {n L j : Nat} {af : Int32} {js : List y_J} (h61 : A 61 0 = nI n) (hn : n ≤ 4400) (hj : j < n) (hL : L < 4400) (h74 : A 74 j = nI L) (h69 : A 69 j = 0) (hlen : js.length + 2 ≤ 20000) : ∀ (r k N : Nat), k + r = j → r < N → (∀ e, k ≤ e → e < j → ¬ (A 74 e = nI L ∧ A 69 e = 0)) → rf_freeJoined_4 N (nI L) af (nI k) A js = (A, ((1 : Int32), nI j, A 69 L, A 70 L, if A 71 L = 0 then (0 : Int32) else 1) :: ((3 : Int32), nI L, nI j, (0 : Int32), (0 : Int32)) :: js) ∧ rg_freeJoined_4 N (nI L) af (nI k) A js := by
  have ixL : y_ix (nI L) = L := y_ix_nI (by omega)
  intro r
  induction r with
  | zero =>
    intro k N hk hN hno
    obtain ⟨N, rfl⟩ : ∃ j, N = j + 1 := ⟨N - 1, by omega⟩
    obtain rfl : k = j := by omega
    have cc : ¬ nI n ≤ nI k := nI_ge (by omega) (by omega)
    have ixk : y_ix (nI k) = k := y_ix_nI (by omega)
    have yk : y_in (nI k) 4400 := y_in_nI (by omega) (by decide)
    unfold rf_freeJoined_4 rg_freeJoined_4
    rw [h61, if_neg cc, ixk, if_pos h74, if_pos h69, ixL]
    exact ⟨rfl, fun z => absurd z cc, fun _ => ⟨yk, fun _ => ⟨fun _ => ⟨by omega, k_alike hL (by rw [List.length_cons]; omega), trivial⟩, fun z => absurd h69 z⟩, fun z => absurd h74 z⟩⟩
  | succ r ih =>
    intro k N hk hN hno
    obtain ⟨N, rfl⟩ : ∃ j, N = j + 1 := ⟨N - 1, by omega⟩
    have cc : ¬ nI n ≤ nI k := nI_ge (by omega) (by omega)
    have ixk : y_ix (nI k) = k := y_ix_nI (by omega)
    have yk : y_in (nI k) 4400 := y_in_nI (by omega) (by decide)
    obtain ⟨i1, i2⟩ := ih (k + 1) N (by omega) (by omega) (fun e e1 e2 => hno e (by omega) e2)
    have hk' := hno k (Nat.le_refl _) (by omega)
    unfold rf_freeJoined_4 rg_freeJoined_4
    rw [h61, if_neg cc, ixk, nI_1]
    by_cases c1 : A 74 k = nI L
    · have c2 : ¬ A 69 k = 0 := fun z => hk' ⟨c1, z⟩
      rw [if_pos c1, if_neg c2]
      exact ⟨i1, fun z => absurd z cc, fun _ => ⟨yk, fun _ => ⟨fun z => absurd z c2, fun _ => i2⟩, fun z => absurd c1 z⟩⟩
    · rw [if_neg c1]
      exact ⟨i1, fun z => absurd z cc, fun _ => ⟨yk, fun z => absurd z c1, fun _ => i2⟩⟩
theorem k_gn_no {A : y_A} {n L : Nat} {af : Int32} {js : List y_J} (h61 : A 61 0 = nI n) (hn : n ≤ 4400) : ∀ (r k N : Nat), k + r = n → r < N → (∀ e, k ≤ e → e < n → ¬ (A 74 e = nI L ∧ A 69 e = 0)) → rf_gone_4 N (nI L) af (nI k) A js = (A, js) ∧ rg_gone_4 N (nI L) af (nI k) A js := by
  intro r
  induction r with
  | zero =>
    intro k N hk hN hno
    obtain ⟨N, rfl⟩ : ∃ j, N = j + 1 := ⟨N - 1, by omega⟩
    have cc : nI n ≤ nI k := nI_le (by omega) (by omega)
    unfold rf_gone_4 rg_gone_4
    rw [h61, if_pos cc]
    exact ⟨rfl, fun _ => trivial, fun z => absurd cc z⟩
  | succ r ih =>
    intro k N hk hN hno
    obtain ⟨N, rfl⟩ : ∃ j, N = j + 1 := ⟨N - 1, by omega⟩
    have cc : ¬ nI n ≤ nI k := nI_ge (by omega) (by omega)
    have ixk : y_ix (nI k) = k := y_ix_nI (by omega)
    have yk : y_in (nI k) 4400 := y_in_nI (by omega) (by decide)
    obtain ⟨i1, i2⟩ := ih (k + 1) N (by omega) (by omega) (fun e e1 e2 => hno e (by omega) e2)
    have hk' := hno k (Nat.le_refl _) (by omega)
    unfold rf_gone_4 rg_gone_4
    rw [h61, if_neg cc, ixk, nI_1]
    by_cases c1 : A 74 k = nI L
    · have c2 : ¬ A 69 k = 0 := fun z => hk' ⟨c1, z⟩
      rw [if_pos c1, if_neg c2]
      exact ⟨i1, fun z => absurd z cc, fun _ => ⟨yk, fun _ => ⟨fun z => absurd z c2, fun _ => i2⟩, fun z => absurd c1 z⟩⟩
    · rw [if_neg c1]
      exact ⟨i1, fun z => absurd z cc, fun _ => ⟨yk, fun z => absurd z c1, fun _ => i2⟩⟩
theorem k_gn_hit {A : y_A} {n L j : Nat} {af : Int32} {js : List y_J} (h61 : A 61 0 = nI n) (hn : n ≤ 4400) (hj : j < n) (hL : L < 4400) (h74 : A 74 j = nI L) (h69 : A 69 j = 0) (hlen : js.length + 2 ≤ 20000) : ∀ (r k N : Nat), k + r = j → r < N → (∀ e, k ≤ e → e < j → ¬ (A 74 e = nI L ∧ A 69 e = 0)) → rf_gone_4 N (nI L) af (nI k) A js = (A, ((2 : Int32), nI j, (13 : Int32), (0 : Int32), (0 : Int32)) :: ((5 : Int32), nI L, nI j, (0 : Int32), (0 : Int32)) :: js) ∧ rg_gone_4 N (nI L) af (nI k) A js := by
  have ixL : y_ix (nI L) = L := y_ix_nI (by omega)
  intro r
  induction r with
  | zero =>
    intro k N hk hN hno
    obtain ⟨N, rfl⟩ : ∃ j, N = j + 1 := ⟨N - 1, by omega⟩
    obtain rfl : k = j := by omega
    have cc : ¬ nI n ≤ nI k := nI_ge (by omega) (by omega)
    have ixk : y_ix (nI k) = k := y_ix_nI (by omega)
    have yk : y_in (nI k) 4400 := y_in_nI (by omega) (by decide)
    unfold rf_gone_4 rg_gone_4
    rw [h61, if_neg cc, ixk, if_pos h74, if_pos h69]
    exact ⟨rfl, fun z => absurd z cc, fun _ => ⟨yk, fun _ => ⟨fun _ => ⟨by omega, by rw [List.length_cons]; omega, trivial⟩, fun z => absurd h69 z⟩, fun z => absurd h74 z⟩⟩
  | succ r ih =>
    intro k N hk hN hno
    obtain ⟨N, rfl⟩ : ∃ j, N = j + 1 := ⟨N - 1, by omega⟩
    have cc : ¬ nI n ≤ nI k := nI_ge (by omega) (by omega)
    have ixk : y_ix (nI k) = k := y_ix_nI (by omega)
    have yk : y_in (nI k) 4400 := y_in_nI (by omega) (by decide)
    obtain ⟨i1, i2⟩ := ih (k + 1) N (by omega) (by omega) (fun e e1 e2 => hno e (by omega) e2)
    have hk' := hno k (Nat.le_refl _) (by omega)
    unfold rf_gone_4 rg_gone_4
    rw [h61, if_neg cc, ixk, nI_1]
    by_cases c1 : A 74 k = nI L
    · have c2 : ¬ A 69 k = 0 := fun z => hk' ⟨c1, z⟩
      rw [if_pos c1, if_neg c2]
      exact ⟨i1, fun z => absurd z cc, fun _ => ⟨yk, fun _ => ⟨fun z => absurd z c2, fun _ => i2⟩, fun z => absurd c1 z⟩⟩
    · rw [if_neg c1]
      exact ⟨i1, fun z => absurd z cc, fun _ => ⟨yk, fun z => absurd z c1, fun _ => i2⟩⟩
end
