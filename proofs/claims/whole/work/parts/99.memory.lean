/-! ===== A MEMORY, A TRANSLATOR, A JOIN is told (printed by wip/whole/gen99.py) ===== -/
section
theorem kM.keep {S : xm_S} {A : y_A} {X E B : Nat → Prop} {hb rb nb t w e1 e2 g s c : Nat} (h : kM S A X E B hb rb nb t w e1 e2) (hg : g < xm_n S 1 3) (hs : s < 8) (hc : c < xm_n S 1 6) (h69 : A 69 c = 1) (h68 : A 68 c = A 0 0) : kM (xm_sr S 15 g s (some c)) (xm_u2 (xm_u2 (xm_u2 A 44 (8 * g + s) (A 70 c)) 45 (8 * g + s) (A 0 0)) 46 (8 * g + s) (A 71 c)) X E B hb rb nb t w e1 e2 ∧ kF 0 0 [] [(15, 0), (15, 1), (15, 2), (15, 3), (15, 4), (15, 5), (15, 6), (15, 7)] [44, 45, 46] S (xm_sr S 15 g s (some c)) A (xm_u2 (xm_u2 (xm_u2 A 44 (8 * g + s) (A 70 c)) 45 (8 * g + s) (A 0 0)) 46 (8 * g + s) (A 71 c)) := by
  have hF : kF 0 0 [] [(15, 0), (15, 1), (15, 2), (15, 3), (15, 4), (15, 5), (15, 6), (15, 7)] [44, 45, 46] S (xm_sr S 15 g s (some c)) A (xm_u2 (xm_u2 (xm_u2 A 44 (8 * g + s) (A 70 c)) 45 (8 * g + s) (A 0 0)) 46 (8 * g + s) (A 71 c)) := by
    refine ((((kF.rf 0 0 S A).sr 15 g s (some c) (fun z => absurd z (by decide)) (fun z => absurd z (by decide))).u 44 (8 * g + s) (A 70 c) (fun z => absurd z.1 (by decide)) (fun z => absurd z.2 (by decide))).u 45 (8 * g + s) (A 0 0) (fun z => absurd z.1 (by decide)) (fun z => absurd z.2 (by decide))).u 46 (8 * g + s) (A 71 c) (fun z => absurd z.1 (by decide)) (fun z => absurd z.2 (by decide)) |>.w (fun x hx => hx) (fun x hx => ?_) (by decide)
    obtain rfl : x = (15, s) := List.mem_singleton.mp hx
    obtain rfl | rfl | rfl | rfl | rfl | rfl | rfl | rfl : s = 0 ∨ s = 1 ∨ s = 2 ∨ s = 3 ∨ s = 4 ∨ s = 5 ∨ s = 6 ∨ s = 7 := by omega
    all_goals decide
  refine ⟨?_, hF⟩
  obtain ⟨⟨hC, hcnt, hb', hl, ht, hv, h1, h2, h3, h4, h5, h6, h7, h8, h9, h10, h11, h12⟩, hS, hgr, ⟨j1, j2, j3, j4, j5, j6, j7, j8, j9, j10, j11, j12, j13, j14, j15, j16, j17, j18⟩⟩ := h
  have hN : ∀ {r k : Nat}, k < xm_n (xm_sr S 15 g s (some c)) 1 r → k < xm_n S 1 r := fun z => by rw [hF.1] at z; exact z
  refine ⟨⟨xk_C.F hF (by decide) hC, k_cnt.F hF (by decide) (by decide) (by decide) (by decide) (by decide) (by decide) (by decide) (by decide) (by decide) (by decide) (by decide) hcnt, k_bnd.F hF hb', k_lst.F hF hl, k_top.F hF (by decide) (by decide) (by decide) ht, k_live.F hF (by decide) hv, fun k hk => ks.F hF (by decide) (by decide) (by decide) (by decide) (by decide) (by decide) (by decide) (h1 k (hN hk)), fun k hk => kc.F hF (by decide) (by decide) (by decide) (by decide) (by decide) (by decide) (by decide) (by decide) (by decide) (by decide) (by decide) (by decide) (by decide) (by decide) (by decide) (by decide) (by decide) (by decide) (by decide) (by decide) (by decide) (by decide) (by decide) (by decide) (by decide) (by decide) (by decide) (by decide) (by decide) (by decide) (by decide) (by decide) (by decide) (by decide) (h2 k (hN hk)), ?_, fun k hk => kf.F hF (by decide) (by decide) (by decide) (by decide) (by decide) (by decide) (by decide) (by decide) (by decide) (by decide) (by decide) (by decide) (by decide) (h4 k (hN hk)), fun k hk => ke.F hF (by decide) (by decide) (by decide) (by decide) (by decide) (by decide) (by decide) (by decide) (by decide) (by decide) (h5 k (hN hk)), fun k hk => ko.F hF (by decide) (by decide) (by decide) (by decide) (by decide) (by decide) (by decide) (by decide) (by decide) (by decide) (by decide) (h6 k (hN hk)), fun k hk => kp.F hF (by decide) (by decide) (by decide) (by decide) (by decide) (by decide) (by decide) (by decide) (by decide) (by decide) (by decide) (by decide) (by decide) (by decide) (by decide) (by decide) (by decide) (by decide) (by decide) (by decide) (by decide) (by decide) (by decide) (by decide) (h7 k (hN hk)), fun k hk => ka.F hF (by decide) (by decide) (by decide) (by decide) (by decide) (by decide) (by decide) (by decide) (by decide) (by decide) (by decide) (by decide) (h8 k (hN hk)), by rw [hF.1]; exact kt.F hF (by decide) (by decide) (by decide) h9, fun k hk => kt.F hF (by decide) (by decide) (by decide) (h10 k (hN hk)), fun k hk => kw.F1 hF (by decide) (by decide) (by decide) (by decide) (by decide) (by decide) (by decide) (by decide) (by decide) (by decide) (h11 k (hN hk)), fun k hk => kw.F2 hF (by decide) (by decide) (by decide) (by decide) (by decide) (by decide) (by decide) (by decide) (by decide) (by decide) (h12 k (hN hk))⟩, kS.F hF (by decide) hS, fun k hk => kgr.F hF (by decide) (by decide) (by decide) (by decide) (by decide) (by decide) (hgr k (hN hk)), ⟨k_par.F hF (by decide) (by decide) (by decide) (by decide) (by decide) (by decide) (by decide) (by decide) (by decide) j1, k_dst.F hF (by decide) (by decide) j2, k_own.F hF (by decide) (by decide) j3, k_obj.F hF j4, k_cap.F hF j5, k_chn.F hF (by decide) (by decide) (by decide) (by decide) j6, k_occ.F hF (by decide) (by decide) (by decide) (by decide) (by decide) (by decide) (by decide) (by decide) (by decide) (by decide) (by decide) j7, k_tri.F hF (by decide) (by decide) (by decide) (by decide) (by decide) j8, k_que.F hF (by decide) (by decide) (by decide) (by decide) (by decide) j9, k_sts.F hF (by decide) (by decide) (by decide) (by decide) (by decide) (by decide) (by decide) (by decide) (by decide) (by decide) (by decide) j10, k_uni.F hF (by decide) (by decide) (by decide) (by decide) (by decide) (by decide) (by decide) (by decide) (by decide) (by decide) j11, k_num.F hF (by decide) (by decide) (by decide) (by decide) (by decide) (by decide) j12, k_pot.F hF (by decide) (by decide) (by decide) (by decide) (by decide) (by decide) (by decide) (by decide) j13, k_pln.F hF (by decide) (by decide) (by decide) (by decide) (by decide) (by decide) (by decide) (by decide) (by decide) (by decide) j14, (hF.2.2.2.2.1 0 (by decide) 0).trans j15, j16, fun k k1 k2 => by rw [hF.2.2.2.2.1 72 (by decide), hF.2.2.2.2.1 0 (by decide)]; exact j17 k k1 (hN k2), fun k hk => kof.F hF (by decide) (by decide) (by decide) (by decide) (by decide) (by decide) (by decide) (by decide) (by decide) (by decide) (by decide) (by decide) (j18 k (hN hk))⟩⟩
  intro k hk
  have hk' : k < xm_n S 1 3 := hk
  obtain ⟨z1, z2, z3, z4, z5, z6, z7, z8, z9, z10, z11, z12, z13, z14, z15, z16⟩ := h3 k hk'
  refine ⟨z1, z2, z3, z4, z5, z6, z7, z8, z9, z10, z11, z12, z13, z14, z15, fun s' hs' => ?_⟩
  have a44 : ∀ i, xm_u2 (xm_u2 (xm_u2 A 44 (8 * g + s) (A 70 c)) 45 (8 * g + s) (A 0 0)) 46 (8 * g + s) (A 71 c) 44 i = if i = 8 * g + s then A 70 c else A 44 i := fun i => by
    refine (y_off (by omega)).trans ((y_off (by omega)).trans ?_)
    unfold xm_u2
    by_cases e : i = 8 * g + s
    · rw [if_pos ⟨rfl, e⟩, if_pos e]
    · rw [if_neg (fun z => e z.2), if_neg e]
  have a45 : ∀ i, xm_u2 (xm_u2 (xm_u2 A 44 (8 * g + s) (A 70 c)) 45 (8 * g + s) (A 0 0)) 46 (8 * g + s) (A 71 c) 45 i = if i = 8 * g + s then A 0 0 else A 45 i := fun i => by
    refine (y_off (by omega)).trans ?_
    by_cases e : i = 8 * g + s
    · rw [if_pos e, e]; exact y_same _ _ _ _
    · rw [if_neg e]; exact (y_off (by omega)).trans (y_off (by omega))
  have a46 : ∀ i, xm_u2 (xm_u2 (xm_u2 A 44 (8 * g + s) (A 70 c)) 45 (8 * g + s) (A 0 0)) 46 (8 * g + s) (A 71 c) 46 i = if i = 8 * g + s then A 71 c else A 46 i := fun i => by
    by_cases e : i = 8 * g + s
    · rw [if_pos e, e]; exact y_same _ _ _ _
    · rw [if_neg e]; exact (y_off (by omega)).trans ((y_off (by omega)).trans (y_off (by omega)))
  have o : ∀ x i, x ≠ 44 → x ≠ 45 → x ≠ 46 → xm_u2 (xm_u2 (xm_u2 A 44 (8 * g + s) (A 70 c)) 45 (8 * g + s) (A 0 0)) 46 (8 * g + s) (A 71 c) x i = A x i := fun x i w1 w2 w3 => (y_off (by omega)).trans ((y_off (by omega)).trans (y_off (by omega)))
  rw [a44, a45, a46]
  by_cases e : k = g ∧ s' = s
  · rw [e.1, e.2, if_pos rfl, if_pos rfl, if_pos rfl]
    refine Or.inr ⟨c, xr_same, hc, ?_⟩
    rw [o 69 c (by decide) (by decide) (by decide), o 70 c (by decide) (by decide) (by decide), o 68 c (by decide) (by decide) (by decide), o 71 c (by decide) (by decide) (by decide), h68]
    exact ⟨h69, rfl, rfl, rfl, ht.2.1⟩
  · have ne : ¬ 8 * k + s' = 8 * g + s := by omega
    rw [if_neg ne, if_neg ne, if_neg ne]
    have er : xm_r (xm_sr S 15 g s (some c)) 15 k s' = xm_r S 15 k s' := if_neg (fun z => e ⟨z.2.1, z.2.2⟩)
    rw [er]
    rcases z16 s' hs' with y | ⟨d, y1, y2, y3⟩
    · exact Or.inl y
    · refine Or.inr ⟨d, y1, y2, ?_⟩
      rw [o 69 d (by decide) (by decide) (by decide), o 70 d (by decide) (by decide) (by decide), o 68 d (by decide) (by decide) (by decide), o 71 d (by decide) (by decide) (by decide)]
      exact y3
theorem k_told_7 {A : y_A} {p c g o s : Nat} {js : List y_J} (hp : p < 4400) (hc : c < 4400) (hg : g < 24) (hG : A 65 p = nI g) (hs : A 31 g = 7) (ho : o < 60) (hO : A 62 p = nI o) (hst : s < 8) (hS : A 52 o = nI s) (hby : A 71 c = 0 ∨ A 71 c = 1) (hlen : js.length < 20000) : rf_told (nI p) (nI c) A js = (if A 69 c = 1 ∧ A 53 o = 0 then (xm_u2 (xm_u2 (xm_u2 A 44 (8 * g + s) (A 70 c)) 45 (8 * g + s) (A 0 0)) 46 (8 * g + s) (A 71 c)) else A, ((1 : Int32), nI p, A 69 c, A 70 c, if A 71 c = 0 then (0 : Int32) else 1) :: js) ∧ rg_told (nI p) (nI c) A js := by
  have ixp : y_ix (nI p) = p := y_ix_nI (by omega)
  have ixc : y_ix (nI c) = c := y_ix_nI (by omega)
  have ixg : y_ix (nI g) = g := y_ix_nI (by omega)
  have ixo : y_ix (nI o) = o := y_ix_nI (by omega)
  have ex : (8 : Int32) * nI g + nI s = nI (8 * g + s) := by rw [show (8 : Int32) = nI 8 from rfl, nI_mulc, nI_add]
  have exi : y_ix (nI (8 * g + s)) = 8 * g + s := y_ix_nI (by omega)
  have al : ∀ A, rg_alike (nI p) (nI c) A js := fun A => k_alike hc hlen
  unfold rf_told rg_told
  rw [ixp, hG, ixg, hO, ixo, hS, ex, exi]
  refine ⟨?_, y_in_nI hp (by decide), y_in_nI hg (by decide), ?_⟩
  · rw [if_neg (show ¬ A 31 g = 0 by rw [hs]; decide), if_neg (show ¬ A 31 g = 1 by rw [hs]; decide), if_neg (show ¬ A 31 g = 2 by rw [hs]; decide), if_neg (show ¬ A 31 g = 3 by rw [hs]; decide), if_neg (show ¬ A 31 g = 4 by rw [hs]; decide), if_neg (show ¬ A 31 g = 5 by rw [hs]; decide), if_neg (show ¬ A 31 g = 6 by rw [hs]; decide), if_pos hs, ixc]
    by_cases c1 : A 69 c = 1
    · by_cases c2 : A 53 o = 0
      · rw [if_pos c1, if_pos c2, if_pos (show A 69 c = 1 ∧ A 53 o = 0 from ⟨c1, c2⟩)]
      · rw [if_pos c1, if_neg c2, if_neg (show ¬ (A 69 c = 1 ∧ A 53 o = 0) from fun z => c2 z.2)]
    · rw [if_neg c1, if_neg (show ¬ (A 69 c = 1 ∧ A 53 o = 0) from fun z => c1 z.1)]
  · rw [ixc]
    exact ⟨fun z2 => absurd z2 (by rw [hs]; decide), fun _ => ⟨fun z2 => absurd z2 (by rw [hs]; decide), fun _ => ⟨fun z2 => absurd z2 (by rw [hs]; decide), fun _ => ⟨fun z2 => absurd z2 (by rw [hs]; decide), fun _ => ⟨fun z2 => absurd z2 (by rw [hs]; decide), fun _ => ⟨fun z2 => absurd z2 (by rw [hs]; decide), fun _ => ⟨fun z2 => absurd z2 (by rw [hs]; decide), fun _ => ⟨fun _ => ⟨y_in_nI hc (by decide), fun _ => ⟨y_in_nI ho (by decide), fun _ => ⟨y_in_nI (by omega) (by decide), hby, al _, trivial⟩, fun _ => ⟨al _, trivial⟩⟩, fun _ => ⟨al _, trivial⟩⟩, fun z => absurd hs z⟩⟩⟩⟩⟩⟩⟩⟩
theorem kTN.s7 {Nm : Prop} {D e : Nat} (IH : kEN Nm D e) : kTN Nm (D + 3) e 7 := by
  intro S A X E hb rb nb t w p c o g rest hM hT hX hD hEp hg hs hon hch hlat hlen
  have hTT := hT
  obtain ⟨t1, t2, t3, t4, t5, t6, t7, t8, t9⟩ := hT
  have hbd := hM.1.2.2.1
  unfold k_bnd at hbd
  have hgn := hM.gb p g t2 hg
  have hG : A 65 p = nI g := by
    have := (hM.1.2.2.2.2.2.2.2.1 p t2).2.2.2.2.2.2.2.2.2.2.2.1
    rw [hg] at this
    exact this
  have s1 : xm_i S 5 g 1 = 7 := ((hM.1.2.2.2.2.2.2.2.2.1 g hgn).2.1).trans hs
  have hEq : (fun k => E k ∨ (k = p ∧ A 31 g = 3)) = E := by
    funext k
    exact propext ⟨fun z => z.resolve_right (fun y => absurd (hs.symm.trans y.2) (by decide)), Or.inl⟩
  rw [hEq] at hM
  have h75 : ¬ A 75 p = 1 := fun z => by
    obtain ⟨g', y1, y2⟩ := (hM.2.2.2.2.2.2.2.2.2.1 p t2).2.1 (Or.inl z)
    rw [← Option.some.inj (hg.symm.trans y1), hs] at y2
    exact absurd y2 (by decide)
  have hnch : ∀ k, k < xm_n S 1 6 → xm_r S 2 k 2 = some p → xm_i S 2 k 8 ≠ 0 := fun k hk hkp h0 => absurd (hs.symm.trans (hch k hk hkp h0)) (by decide)
  have h8c : ∀ {q : Prop}, ¬ A 69 c = 2 → ¬ xm_i S 2 c 8 = 1 → q := fun z1 z2 => by
    rw [(hM.1.2.2.2.2.2.2.2.1 c t1).2.2.2.2.1] at z2
    exact absurd (t5.resolve_left z2) z1
  have hcc := hM.1.2.2.2.2.2.2.2.1 c t1
  have hpc := hM.1.2.2.2.2.2.2.2.1 p t2
  obtain ⟨o', o1, o2, o3⟩ := hpc.2.2.2.2.2.2.2.2.2.1
  obtain ⟨-, -, ⟨s, s2, s3, s4⟩, o6, -⟩ := hM.1.2.2.2.2.2.2.2.2.2.2.2.1 o' o2
  have hk9 := (hM.1.2.2.2.2.2.2.1 s s3).1
  have hkg := hM.1.2.2.2.2.2.2.2.2.1 g hgn
  have h14 := hkg.2.2.2.2.2.2.2.2.2.2.2.2.2.1
  have h25 := hkg.2.2.2.2.2.2.2.2.2.2.2.2.2.2.1
  obtain ⟨r1, r2⟩ := k_told_7 (A := A) (js := rest) (by omega) (show c < 4400 by omega) (by omega) hG hs (by omega) o3 (by omega) s4 hcc.2.2.2.2.2.2.2.2.2.2.2.2.2.2.2.2.1 (by omega)
  have same : ¬ (A 69 c = 1 ∧ A 53 o' = 0) → ((xm_i S 2 c 8 = 1 → xc D 30 [.inr (some (0, 0)), .inr (some (2, p)), .inl (xm_i S 2 c 9), .inl (xm_i S 2 c 10)] S (fun r S12 => r = none ∧ xk_C S12 ∧ kPo S A (if A 69 c = 1 ∧ A 53 o' = 0 then (xm_u2 (xm_u2 (xm_u2 A 44 (8 * g + s) (A 70 c)) 45 (8 * g + s) (A 0 0)) 46 (8 * g + s) (A 71 c)) else A) (((1 : Int32), nI p, A 69 c, A 70 c, if A 71 c = 0 then (0 : Int32) else 1) :: rest) rest X E hb rb nb t w none S12)) ∧ (¬ xm_i S 2 c 8 = 1 → ∀ t14, xm_r S 2 c 11 = t14 → xc D 22 [.inr (some (0, 0)), .inr (some (2, p)), .inr (xo 4 t14)] S (fun r S16 => r = none ∧ xk_C S16 ∧ kPo S A (if A 69 c = 1 ∧ A 53 o' = 0 then (xm_u2 (xm_u2 (xm_u2 A 44 (8 * g + s) (A 70 c)) 45 (8 * g + s) (A 0 0)) 46 (8 * g + s) (A 71 c)) else A) (((1 : Int32), nI p, A 69 c, A 70 c, if A 71 c = 0 then (0 : Int32) else 1) :: rest) rest X E hb rb nb t w none S16))) := fun z => by
    rw [if_neg z]
    exact c_al IH hM.later (hM.exm t2 hnch (fun g' hg' => by rw [← Option.some.inj (hg.symm.trans hg'), hs]; decide)) hTT hX hD h75 (by omega) rfl rfl rfl rfl
  refine ⟨_, _, r1, r2, cw_tell (d := D + 1) hM.1.1 (fun t1' e1 => ⟨fun z => ?_, fun g' z => ?_⟩)⟩
  · rw [hg, z] at e1; cases e1
  · rw [hg, z] at e1
    obtain rfl := Option.some.inj e1
    refine ⟨fun _ => ⟨fun z => absurd (s1.symm.trans z) (by decide), fun _ => ⟨fun z => absurd (s1.symm.trans z) (by decide), fun _ => ⟨fun z => absurd (s1.symm.trans z) (by decide), fun _ => ⟨fun z => absurd (s1.symm.trans z) (by decide), fun _ => ⟨fun z => absurd (s1.symm.trans z) (by decide), fun _ => ⟨fun z => absurd (s1.symm.trans z) (by decide), fun _ => ⟨fun z => absurd (s1.symm.trans z) (by decide), fun _ => ⟨fun _ => ?_, fun z => absurd s1 z⟩⟩⟩⟩⟩⟩⟩⟩, fun z => absurd t4 z⟩
    refine xc.mono (Q := kPo S A (if A 69 c = 1 ∧ A 53 o' = 0 then (xm_u2 (xm_u2 (xm_u2 A 44 (8 * g + s) (A 70 c)) 45 (8 * g + s) (A 0 0)) 46 (8 * g + s) (A 71 c)) else A) (((1 : Int32), nI p, A 69 c, A 70 c, if A 71 c = 0 then (0 : Int32) else 1) :: rest) rest X E hb rb nb t w) ?_ (fun r S' z => ⟨z.1, z.2.1, rfl, z.2⟩)
    have e8 : xm_i S 2 c 8 = A 69 c := hcc.2.2.2.2.1
    refine cw_tellMemory (d := D) hM.1.1 (fun u1 e1 => ⟨o', e1.symm.trans o1, fun h53 => ⟨fun h8 u6 e6 => ⟨s, e6.symm.trans s2, fun z => ?_, fun _ u12 e12 => ⟨g, e12.symm.trans h14, fun z => ?_, fun _ => ⟨?_, fun S19 e19 => ?_⟩⟩⟩, fun h8 => ?_⟩, fun h53 => ?_⟩)
    · rw [hk9] at z; exact absurd z (nI_pos (by omega))
    · rw [hk9, h25] at z; exact absurd z (nI_ge (a := s) (b := 8) (by omega) (by decide))
    · rw [hk9, h25]; exact y_in_nI (by omega) (by decide)
    · rw [hk9, y_ix_nI (by omega)] at e19
      subst e19
      have c1 : A 69 c = 1 := e8.symm.trans h8
      have c2 : A 53 o' = 0 := o6.symm.trans h53
      obtain ⟨hM1, hF⟩ := hM.keep hgn (s := s) (by omega) t1 c1 t6
      have hM2 := hM1.exm t2 hnch (fun g' hg' => by
        rw [show xm_u2 (xm_u2 (xm_u2 A 44 (8 * g + s) (A 70 c)) 45 (8 * g + s) (A 0 0)) 46 (8 * g + s) (A 71 c) 31 g' = A 31 g' from hF.2.2.2.2.1 31 (by decide) g', ← Option.some.inj (hg.symm.trans hg'), hs]; decide)
      have hL := hF.L hM (by decide) (by decide) (by decide)
      have a : ∀ x, x ≠ 44 → x ≠ 45 → x ≠ 46 → ∀ k, (xm_u2 (xm_u2 (xm_u2 A 44 (8 * g + s) (A 70 c)) 45 (8 * g + s) (A 0 0)) 46 (8 * g + s) (A 71 c)) x k = A x k := fun x z1 z2 z3 k => hF.2.2.2.2.1 x (by simp only [List.mem_cons, List.not_mem_nil, or_false]; omega) k
      have := c_al IH hL hM2 ⟨t1, t2, t3, t4, by rw [a 69 (by decide) (by decide) (by decide)]; exact t5, by rw [a 68 (by decide) (by decide) (by decide), a 0 (by decide) (by decide) (by decide)]; exact t6, t7, t8, t9.L hL⟩ hX (hD.L hL hM.gb) (by rw [a 75 (by decide) (by decide) (by decide)]; exact h75) (show rest.length + 10 * e + 110 + kC Nm ≤ 20000 by omega) rfl rfl rfl rfl
      rw [a 69 (by decide) (by decide) (by decide), a 70 (by decide) (by decide) (by decide), a 71 (by decide) (by decide) (by decide)] at this
      rw [if_pos ⟨c1, c2⟩]
      exact this.1 h8
    · exact (same (fun z => h8 (e8.trans z.1))).2 h8
    · exact same (fun z => h53 (o6.trans z.2))
theorem k_told_9 {A : y_A} {p c g n : Nat} {js : List y_J} (hp : p < 4400) (hc : c < 4400) (hg : g < 24) (hG : A 65 p = nI g) (hs : A 31 g = 9) (hn : n < 4400) (h23 : A 23 0 = nI n) (hnm : rg_isNamed (nI c) (nI g) A) (hlen : js.length < 20000) : rf_told (nI p) (nI c) A js = (if rf_isNamed (nI c) (nI g) A = 0 then (A, ((1 : Int32), nI p, A 69 c, A 70 c, if A 71 c = 0 then (0 : Int32) else 1) :: js) else ((xm_u2 (kAf A n (A 33 g) (nI g) (-1)) 28 n (A 70 c)), ((1 : Int32), nI p, (2 : Int32), nI n, (0 : Int32)) :: js)) ∧ rg_told (nI p) (nI c) A js := by
  have ixp : y_ix (nI p) = p := y_ix_nI (by omega)
  have ixc : y_ix (nI c) = c := y_ix_nI (by omega)
  have ixg : y_ix (nI g) = g := y_ix_nI (by omega)
  have ixn : y_ix (nI n) = n := y_ix_nI (by omega)
  have hn1 : nI n + 1 - 1 = nI n := by rw [nI_1, nI_pred]
  have yn : y_in (nI n) 4400 := y_in_nI hn (by decide)
  have al : ∀ A, rg_alike (nI p) (nI c) A js := fun A => k_alike hc hlen
  unfold rf_told rg_told
  rw [ixp, hG, ixg, h23, hn1, ixn]
  refine ⟨?_, y_in_nI hp (by decide), y_in_nI hg (by decide), ?_⟩
  · rw [if_neg (show ¬ A 31 g = 0 by rw [hs]; decide), if_neg (show ¬ A 31 g = 1 by rw [hs]; decide), if_neg (show ¬ A 31 g = 2 by rw [hs]; decide), if_neg (show ¬ A 31 g = 3 by rw [hs]; decide), if_neg (show ¬ A 31 g = 4 by rw [hs]; decide), if_neg (show ¬ A 31 g = 5 by rw [hs]; decide), if_neg (show ¬ A 31 g = 6 by rw [hs]; decide), if_neg (show ¬ A 31 g = 7 by rw [hs]; decide), if_neg (show ¬ A 31 g = 8 by rw [hs]; decide), if_pos hs, ixc]
    by_cases c1 : rf_isNamed (nI c) (nI g) A = 0
    · rw [if_pos c1, if_pos c1]
    · rw [if_neg c1, if_neg c1]
      unfold kAf
      rw [nI_1]
  · exact ⟨fun z2 => absurd z2 (by rw [hs]; decide), fun _ => ⟨fun z2 => absurd z2 (by rw [hs]; decide), fun _ => ⟨fun z2 => absurd z2 (by rw [hs]; decide), fun _ => ⟨fun z2 => absurd z2 (by rw [hs]; decide), fun _ => ⟨fun z2 => absurd z2 (by rw [hs]; decide), fun _ => ⟨fun z2 => absurd z2 (by rw [hs]; decide), fun _ => ⟨fun z2 => absurd z2 (by rw [hs]; decide), fun _ => ⟨fun z2 => absurd z2 (by rw [hs]; decide), fun _ => ⟨fun z2 => absurd z2 (by rw [hs]; decide), fun _ => ⟨fun _ => ⟨hnm, fun _ => ⟨al _, trivial⟩, fun _ => ⟨⟨by rw [h23]; exact yn, trivial⟩, y_in_nI hc (by decide), yn, hlen, trivial⟩⟩, fun z => absurd hs z⟩⟩⟩⟩⟩⟩⟩⟩⟩⟩
theorem kTN.s9 {Nm : Prop} {D e : Nat} (IH : kEN Nm D e) : kTN Nm (D + 3) e 9 := by
  intro S A X E hb rb nb t w p c o g rest hM hT hX hD hEp hg hs hon hch hlat hlen
  have hTT := hT
  obtain ⟨t1, t2, t3, t4, t5, t6, t7, t8, t9⟩ := hT
  have hbd := hM.1.2.2.1
  unfold k_bnd at hbd
  have hgn := hM.gb p g t2 hg
  have hG : A 65 p = nI g := by
    have := (hM.1.2.2.2.2.2.2.2.1 p t2).2.2.2.2.2.2.2.2.2.2.2.1
    rw [hg] at this
    exact this
  have s1 : xm_i S 5 g 1 = 9 := ((hM.1.2.2.2.2.2.2.2.2.1 g hgn).2.1).trans hs
  have hEq : (fun k => E k ∨ (k = p ∧ A 31 g = 3)) = E := by
    funext k
    exact propext ⟨fun z => z.resolve_right (fun y => absurd (hs.symm.trans y.2) (by decide)), Or.inl⟩
  rw [hEq] at hM
  have h75 : ¬ A 75 p = 1 := fun z => by
    obtain ⟨g', y1, y2⟩ := (hM.2.2.2.2.2.2.2.2.2.1 p t2).2.1 (Or.inl z)
    rw [← Option.some.inj (hg.symm.trans y1), hs] at y2
    exact absurd y2 (by decide)
  have hnch : ∀ k, k < xm_n S 1 6 → xm_r S 2 k 2 = some p → xm_i S 2 k 8 ≠ 0 := fun k hk hkp h0 => absurd (hs.symm.trans (hch k hk hkp h0)) (by decide)
  have h8c : ∀ {q : Prop}, ¬ A 69 c = 2 → ¬ xm_i S 2 c 8 = 1 → q := fun z1 z2 => by
    rw [(hM.1.2.2.2.2.2.2.2.1 c t1).2.2.2.2.1] at z2
    exact absurd (t5.resolve_left z2) z1
  obtain ⟨nm1, nm2, nm3⟩ := k_named hM t1 hgn
  have w8 := hM.1.2.1.2.2.2.2.2.2.2.1
  have hkg := hM.1.2.2.2.2.2.2.2.2.1 g hgn
  have hexm : kM S A X (fun k => E k ∨ k = p) (fun _ => False) hb rb nb t w 0 0 := hM.exm t2 hnch (fun g' hg' => by rw [← Option.some.inj (hg.symm.trans hg'), hs]; decide)
  have hr33 := (hM.2.2.1 g hgn).2.2.1 hs
  obtain ⟨r1, r2⟩ := k_told_9 (A := A) (js := rest) (by omega) (show c < 4400 by omega) (by omega) hG hs (show xm_n S 1 8 < 4400 by
    have := (hM.2.2.2.2.2.2.2.2.2.2.2.2.2.2.1).1
    have := k_hows.lt (v := 2) t2 (by rw [t4]; decide)
    omega) w8 nm1 (by omega)
  refine ⟨_, _, r1, r2, cw_tell (d := D + 1) hM.1.1 (fun t1' e1 => ⟨fun z => ?_, fun g' z => ?_⟩)⟩
  · rw [hg, z] at e1; cases e1
  · rw [hg, z] at e1
    obtain rfl := Option.some.inj e1
    refine ⟨fun _ => ⟨fun z => absurd (s1.symm.trans z) (by decide), fun _ => ⟨fun z => absurd (s1.symm.trans z) (by decide), fun _ => ⟨fun z => absurd (s1.symm.trans z) (by decide), fun _ => ⟨fun z => absurd (s1.symm.trans z) (by decide), fun _ => ⟨fun z => absurd (s1.symm.trans z) (by decide), fun _ => ⟨fun z => absurd (s1.symm.trans z) (by decide), fun _ => ⟨fun z => absurd (s1.symm.trans z) (by decide), fun _ => ⟨fun z => absurd (s1.symm.trans z) (by decide), fun _ => ⟨fun z => absurd (s1.symm.trans z) (by decide), fun _ => ⟨fun _ => ?_, fun z => absurd s1 z⟩⟩⟩⟩⟩⟩⟩⟩⟩⟩, fun z => absurd t4 z⟩
    generalize hnmE : rf_isNamed (nI c) (nI g) A = NM at nm2 nm3
    have al0 : NM = 0 → ((xm_i S 2 c 8 = 1 → xc D 30 [.inr (some (0, 0)), .inr (some (2, p)), .inl (xm_i S 2 c 9), .inl (xm_i S 2 c 10)] S (fun r S12 => r = none ∧ xk_C S12 ∧ kPo S A (if NM = 0 then (A, ((1 : Int32), nI p, A 69 c, A 70 c, if A 71 c = 0 then (0 : Int32) else 1) :: rest) else (xm_u2 (kAf A (xm_n S 1 8) (A 33 g) (nI g) (-1)) 28 (xm_n S 1 8) (A 70 c), ((1 : Int32), nI p, (2 : Int32), nI (xm_n S 1 8), (0 : Int32)) :: rest)).1 (if NM = 0 then (A, ((1 : Int32), nI p, A 69 c, A 70 c, if A 71 c = 0 then (0 : Int32) else 1) :: rest) else (xm_u2 (kAf A (xm_n S 1 8) (A 33 g) (nI g) (-1)) 28 (xm_n S 1 8) (A 70 c), ((1 : Int32), nI p, (2 : Int32), nI (xm_n S 1 8), (0 : Int32)) :: rest)).2 rest X E hb rb nb t w none S12)) ∧ (¬ xm_i S 2 c 8 = 1 → ∀ t14, xm_r S 2 c 11 = t14 → xc D 22 [.inr (some (0, 0)), .inr (some (2, p)), .inr (xo 4 t14)] S (fun r S16 => r = none ∧ xk_C S16 ∧ kPo S A (if NM = 0 then (A, ((1 : Int32), nI p, A 69 c, A 70 c, if A 71 c = 0 then (0 : Int32) else 1) :: rest) else (xm_u2 (kAf A (xm_n S 1 8) (A 33 g) (nI g) (-1)) 28 (xm_n S 1 8) (A 70 c), ((1 : Int32), nI p, (2 : Int32), nI (xm_n S 1 8), (0 : Int32)) :: rest)).1 (if NM = 0 then (A, ((1 : Int32), nI p, A 69 c, A 70 c, if A 71 c = 0 then (0 : Int32) else 1) :: rest) else (xm_u2 (kAf A (xm_n S 1 8) (A 33 g) (nI g) (-1)) 28 (xm_n S 1 8) (A 70 c), ((1 : Int32), nI p, (2 : Int32), nI (xm_n S 1 8), (0 : Int32)) :: rest)).2 rest X E hb rb nb t w none S16))) := fun z => by
      rw [if_pos z]
      exact c_al IH hM.later hexm hTT hX hD h75 (by omega) rfl rfl rfl rfl
    refine xc.mono (Q := kPo S A (if NM = 0 then (A, ((1 : Int32), nI p, A 69 c, A 70 c, if A 71 c = 0 then (0 : Int32) else 1) :: rest) else (xm_u2 (kAf A (xm_n S 1 8) (A 33 g) (nI g) (-1)) 28 (xm_n S 1 8) (A 70 c), ((1 : Int32), nI p, (2 : Int32), nI (xm_n S 1 8), (0 : Int32)) :: rest)).1 (if NM = 0 then (A, ((1 : Int32), nI p, A 69 c, A 70 c, if A 71 c = 0 then (0 : Int32) else 1) :: rest) else (xm_u2 (kAf A (xm_n S 1 8) (A 33 g) (nI g) (-1)) 28 (xm_n S 1 8) (A 70 c), ((1 : Int32), nI p, (2 : Int32), nI (xm_n S 1 8), (0 : Int32)) :: rest)).2 rest X E hb rb nb t w) ?_ (fun r S' z => ⟨z.1, z.2.1, rfl, z.2⟩)
    refine cw_tellTranslator (d := D) hM.1.1 (fun u1 e1 => ⟨fun hn => ?_, fun f hf => ?_⟩)
    · obtain ⟨hN, h692⟩ := nm2 (e1.trans hn)
      exact ⟨(al0 hN).1, fun y => (al0 hN).2 y none (e1.trans hn)⟩
    · obtain ⟨⟨k1, k2, k3⟩, kx⟩ := nm3 f (e1.trans hf)
      refine kx D _ ⟨NM, rfl, hM.1.1, fun hN => al0 hN, fun hN => ?_⟩
      obtain ⟨c1, -, -⟩ := c_addFailure (d := D) (kd := A 33 g) (gd := some g) (st := none) hM t2 t4 hr33 (fun g' z => by rw [← Option.some.inj z]; exact hgn) (fun s z => by cases z)
      rw [hkg.2.2.2.1]
      refine xc.mono c1 ?_
      rintro r S20 ⟨w1, w2, w3⟩
      refine ⟨some (xm_n S 1 8), w1, w2.1.1, fun u23 e23 => ⟨xm_n S 1 8, rfl, fun S26 e26 => ?_⟩⟩
      have hL1 : kL S S20 A (kAf A (xm_n S 1 8) (A 33 g) (kn (some g)) (kn none)) := w3.L hM (Or.inl rfl) (fun x k hx => kAf.o (by omega) (by omega))
      have o2 := (hM.2.2.2.2.2.2.1).2.2.2.2.1
      have hc2 : ∀ k j, k < xm_n S 1 6 → xm_i S20 2 k j = xm_i S 2 k j ∧ xm_r S20 2 k j = xm_r S 2 k j := fun k j hk => w3.1 2 k j (by decide) (by omega)
      have n8 : xm_n S20 1 8 = xm_n S 1 8 + 1 := w3.2.2.2
      have n6 : xm_n S20 1 6 = xm_n S 1 6 := w3.2.1 6 (by decide)
      have e23' : u23 = some f := by rw [← e23, (hc2 c 11 t1).2]; exact e1.trans hf
      rw [e23'] at e26
      have hM2 := w2.cause (f := xm_n S 1 8) (m := f) (by omega) (by omega)
      rw [← k2] at hM2
      subst e26
      have hF : kF 0 0 [] [(4, 5)] [28] S20 (xm_sr S20 4 (xm_n S 1 8) 5 (some f)) (kAf A (xm_n S 1 8) (A 33 g) (kn (some g)) (kn none)) (xm_u2 (kAf A (xm_n S 1 8) (A 33 g) (kn (some g)) (kn none)) 28 (xm_n S 1 8) (A 70 c)) := ((kF.rf 0 0 _ _).sr 4 _ 5 (some f) (fun z => absurd z (by decide)) (fun z => absurd z (by decide))).u 28 _ _ (fun z => absurd z.1 (by decide)) (fun z => absurd z.1 (by decide))
      have hL2 := hF.L w2 (by decide) (by decide) (by decide)
      have hL := hL1.tr hL2
      have oA : ∀ x k, x ≠ 28 → ¬ (24 ≤ x ∧ x ≤ 29) → x ≠ 23 → xm_u2 (kAf A (xm_n S 1 8) (A 33 g) (kn (some g)) (kn none)) 28 (xm_n S 1 8) (A 70 c) x k = A x k := fun x k z1 z2 z3 => (y_off (by omega)).trans (kAf.o (by omega) z3)
      have hM3 := hM2.exm (p := p) (by show p < xm_n S20 1 6; omega) (fun k hk hkp => by
        have hk' : k < xm_n S 1 6 := by rw [← n6]; exact hk
        rw [show xm_i (xm_sr S20 4 (xm_n S 1 8) 5 (some f)) 2 k 8 = xm_i S20 2 k 8 from rfl, (hc2 k 8 hk').1]
        exact hnch k hk' ((hc2 k 2 hk').2.symm.trans hkp)) (fun g' hg' => by
        rw [oA 31 g' (by decide) (by decide) (by decide), ← Option.some.inj (hg.symm.trans ((hc2 p 4 t2).2.symm.trans hg')), hs]; decide)
      rw [if_neg hN]
      obtain ⟨-, i2⟩ := IH _ _ X E hb rb nb t w 0 1 p o rest hM3 (by show p < xm_n S20 1 6; omega) ((hc2 p 8 t2).1.trans t4) (by rw [oA 75 p (by decide) (by decide) (by decide)]; exact h75) (hX.L hL) (hD.L hL hM.gb) ((hc2 p 3 t2).1.trans t7) ((hc2 p 1 t2).2.trans t8) (t9.L hL) (by omega)
      refine xc.up (d := D) (xc.mono (i2 (xm_n S 1 8) 0 (by show xm_n S 1 8 < xm_n S20 1 8; omega) (Or.inl rfl) rfl (by omega)) ?_) (by omega)
      rintro r S28 ⟨v1, v2, A', v3, v4, v5⟩
      exact ⟨v1, v2, rfl, v2, A', v3, v4, hL.tr v5⟩
theorem kTN.s8 {Nm : Prop} {D e : Nat} : kTN Nm D e 8 := by
  intro S A X E hb rb nb t w p c o g rest hM hT hX hD hEp hg hs hon hch hlat hlen
  obtain ⟨t1, t2, t3, t4, t5, t6, t7, t8, t9⟩ := hT
  have hgn := hM.gb p g t2 hg
  have s1 : xm_i S 5 g 1 = 8 := ((hM.1.2.2.2.2.2.2.2.2.1 g hgn).2.1).trans hs
  exfalso
  rcases (hM.2.2.2.2.2.2.2.2.2.2.2.2.2.1).2.1 p g t2 hg s1 with z | z
  · obtain ⟨m1, m2, n, n1, n2, n3, n4⟩ := (hM.2.2.2.2.2.2.2.2.1).1 p t2
    have hn0 : n = 0 := (nI_eq (a := n) (b := 0) (by omega) (by decide)).mp (n2.symm.trans z)
    exact m1 (n3.mp hn0) c t1 t3
  · exact t9.2.1 z
end
