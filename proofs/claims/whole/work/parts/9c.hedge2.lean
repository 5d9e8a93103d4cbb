/-! ===== A HEDGE IS TOLD, 2 (printed by wip/whole/gen9c.py) ===== -/
section
theorem k_hedgeTold {Nm : Prop} {Dt : Nat} (hTB : kTB Nm Dt) {S : xm_S} {A : y_A} {X E : Nat → Prop} {hb rb nb t w p c o e g : Nat} {rest : List y_J} {ot : Option Nat} (hM : kM S A X E (fun _ => False) hb rb nb t w 0 0) (hTT : kTp Nm S A p c e o) (hX : kXd S X) (hD : kDl S A E) (hlen : rest.length + 10 * e + 114 + kC Nm ≤ 20000) (hok : ∀ k, ot = some k → k < xm_n S 1 6 ∧ xm_r S 2 k 2 = some p ∧ k ≠ c) (hkids : ∀ k, k < xm_n S 1 6 → xm_r S 2 k 2 = some p → k = c ∨ ot = some k) :
    rf_hedgeTold (nI p) (nI c) A rest = (if A 69 c = 1 then (if kn ot < 0 then (A, ((1 : Int32), nI p, A 69 c, A 70 c, if A 71 c = 0 then (0 : Int32) else 1) :: rest) else (if A 69 (y_ix (kn ot)) = 0 then ((rf_takeBack (kn ot) (-1) A (((1 : Int32), nI p, A 69 c, A 70 c, if A 71 c = 0 then (0 : Int32) else 1) :: rest)).2.1, (rf_takeBack (kn ot) (-1) A (((1 : Int32), nI p, A 69 c, A 70 c, if A 71 c = 0 then (0 : Int32) else 1) :: rest)).2.2) else (A, ((1 : Int32), nI p, A 69 c, A 70 c, if A 71 c = 0 then (0 : Int32) else 1) :: rest))) else (if kn ot < 0 then (A, ((1 : Int32), nI p, A 69 c, A 70 c, if A 71 c = 0 then (0 : Int32) else 1) :: rest) else (if A 69 (y_ix (kn ot)) = 0 then (A, rest) else (if A 69 (y_ix (kn ot)) = 2 then (if A 70 c = A 70 (y_ix (kn ot)) then (A, ((1 : Int32), nI p, (2 : Int32), A 70 (y_ix (kn ot)), (0 : Int32)) :: rest) else (if A 29 (y_ix (A 70 c)) = -1 then (xm_u2 A 29 (y_ix (A 70 c)) (A 70 (y_ix (kn ot))), ((1 : Int32), nI p, (2 : Int32), A 70 (y_ix (kn ot)), (0 : Int32)) :: rest) else (A, ((1 : Int32), nI p, (2 : Int32), A 70 (y_ix (kn ot)), (0 : Int32)) :: rest))) else (A, ((1 : Int32), nI p, A 69 c, A 70 c, if A 71 c = 0 then (0 : Int32) else 1) :: rest))))) ∧ rg_hedgeTold (nI p) (nI c) A rest := by
  obtain ⟨t1, t2, t3, t4, t5, t6, t7, t8, t9⟩ := hTT
  have hbd := hM.1.2.2.1
  unfold k_bnd at hbd
  have h2 := hM.1.2.2.2.2.2.2.2.1
  have ixc : y_ix (nI c) = c := y_ix_nI (by omega)
  have yc : y_in (nI c) 4400 := y_in_nI (by omega) (by decide)
  have ko : kOk S p c (xm_n S 1 6) ot := ⟨fun x hx => by
    obtain ⟨a1, a2, a3⟩ := hok x hx
    exact ⟨a1, a1, a2, a3⟩, fun e' a1 a2 a3 a4 => ⟨e', (hkids e' a2 a3).resolve_left a4, Nat.le_refl _⟩⟩
  obtain ⟨q1, q2⟩ := k_otherOf hM.1 t2 t1 ko
  have al : rg_alike (nI p) (nI c) A rest := k_alike (by omega) (by omega)
  have hl : rest.length < 20000 := by omega
  unfold rf_hedgeTold rg_hedgeTold
  rw [q1, ixc]
  refine ⟨rfl, q2, yc, fun h69 => ⟨al, fun _ => trivial, fun hn => ?_⟩, fun h69 => ⟨fun _ => ⟨al, trivial⟩, fun hn => ?_⟩⟩
  · rcases hot : ot with _ | k
    · rw [hot] at hn; exact absurd (show (-1 : Int32) < 0 by decide) hn
    obtain ⟨o1, o2, o3⟩ := hok k hot
    have ixk : y_ix (kn (some k)) = k := y_ix_nI (by omega)
    refine ⟨y_in_nI (by omega) (by decide), fun z => ⟨?_, trivial⟩, fun _ => trivial⟩
    rw [ixk] at z
    obtain ⟨A1, J1, v, b1, b2, b3⟩ := hTB S A X E hb rb nb t w k p o (((1 : Int32), nI p, A 69 c, A 70 c, if A 71 c = 0 then (0 : Int32) else 1) :: rest) hM o1 ((h2 k o1).2.2.2.2.1.trans z) o2 t8 hX hD t9.2.2 (by rw [List.length_cons]; omega)
    exact b2
  · rcases hot : ot with _ | k
    · rw [hot] at hn; exact absurd (show (-1 : Int32) < 0 by decide) hn
    obtain ⟨o1, o2, o3⟩ := hok k hot
    have h692 : A 69 c = 2 := t5.resolve_left h69
    have h82 : xm_i S 2 c 8 = 2 := ((h2 c t1).2.2.2.2.1).trans h692
    obtain ⟨f, hf⟩ := ((hM.2.2.2.2.2.2.2.2.2.2.2.2.2.2.1).2.2.choose_spec.2.2.2 c t1).2.1 h82
    have h11 := (h2 c t1).2.2.2.2.2.2.2.2.2.2.2.2.2.2.2.1
    rw [hf, h692, if_pos rfl] at h11
    have f2 := (h2 c t1).2.2.2.2.2.2.2.2.2.2.2.2.2.2.2.2.2.2.2.2.2.2.2.2.2.2.2 f hf
    exact ⟨y_in_nI (by omega) (by decide), fun _ => trivial, fun _ => ⟨fun _ => ⟨fun _ => ⟨hl, trivial⟩, fun _ => ⟨by rw [← h11]; exact y_in_nI (show f < 4400 by omega) (by decide), fun _ => ⟨hl, trivial⟩, fun _ => ⟨hl, trivial⟩⟩⟩, fun _ => ⟨al, trivial⟩⟩⟩
theorem kTN.s5 {Nm : Prop} {D e : Nat} (hD1 : 1 ≤ D) (IH : kEN Nm D e) (hTB : kTB Nm (D + 1)) : kTN Nm (D + 3) e 5 := by
  intro S A X E hb rb nb t w p c o g rest hM hT hX hD hEp hg hs hon hch hlat hlen
  have hTT := hT
  obtain ⟨t1, t2, t3, t4, t5, t6, t7, t8, t9⟩ := hT
  have hbd := hM.1.2.2.1
  unfold k_bnd at hbd
  have hgn := hM.gb p g t2 hg
  have hG : A 65 p = nI g := by
    have := (hM.1.2.2.2.2.2.2.2.1 p t2).2.2.2.2.2.2.2.2.2.2.2.1
    rw [hg] at this
    exact this
  have s1 : xm_i S 5 g 1 = 5 := ((hM.1.2.2.2.2.2.2.2.2.1 g hgn).2.1).trans hs
  have hEq : (fun k => E k ∨ (k = p ∧ A 31 g = 3)) = E := by
    funext k
    exact propext ⟨fun z => z.resolve_right (fun y => absurd (hs.symm.trans y.2) (by decide)), Or.inl⟩
  rw [hEq] at hM
  have h75 : ¬ A 75 p = 1 := fun z => by
    obtain ⟨g', y1, y2⟩ := (hM.2.2.2.2.2.2.2.2.2.1 p t2).2.1 (Or.inl z)
    rw [← Option.some.inj (hg.symm.trans y1), hs] at y2
    exact absurd y2 (by decide)
  obtain ⟨l, hl, hot⟩ := k_two hM t1 t2 t4 t3 hg hs
  obtain ⟨ot, eot⟩ : ∃ ot, ot = (if l = c then xm_r S 2 c 18 else some l) := ⟨_, rfl⟩
  obtain ⟨hok, hkids⟩ := hot ot eot
  obtain ⟨r1, r2⟩ := k_hedgeTold (g := g) hTB hM hTT hX hD hlen hok hkids
  obtain ⟨s2, s3⟩ := k_told_5 (A := A) (js := rest) (show p < 4400 by omega) (show c < 4400 by omega) (by omega) hG hs
  obtain ⟨F, hF⟩ : ∃ F, F = rf_hedgeTold (nI p) (nI c) A rest := ⟨_, rfl⟩
  have r0 : rf_told (nI p) (nI c) A rest = (F.1, F.2) := by rw [s2, ← hF]
  have hG5 := c_hedgeG IH hD1 hTB hM hTT hX hD h75 hg hs hlen hok hkids (hF.trans r1)
  refine ⟨_, _, r0, s3 r2, cw_tell (d := D + 1) hM.1.1 (fun t1' e1 => ⟨fun z => ?_, fun g' z => ?_⟩)⟩
  · rw [hg, z] at e1; cases e1
  · rw [hg, z] at e1
    obtain rfl := Option.some.inj e1
    refine ⟨fun _ => ⟨fun z => absurd (s1.symm.trans z) (by decide), fun _ => ⟨fun z => absurd (s1.symm.trans z) (by decide), fun _ => ⟨fun z => absurd (s1.symm.trans z) (by decide), fun _ => ⟨fun z => absurd (s1.symm.trans z) (by decide), fun _ => ⟨fun z => absurd (s1.symm.trans z) (by decide), fun _ => ⟨fun _ => ?_, fun z => absurd s1 z⟩⟩⟩⟩⟩⟩, fun z => absurd t4 z⟩
    refine xc.mono (Q := kPo S A F.1 F.2 rest X E hb rb nb t w) ?_ (fun r S' z => ⟨z.1, z.2.1, rfl, z.2⟩)
    refine cw_tellHedge (d := D) hM.1.1 (fun u1 e1 => ⟨fun z u4 e4 => ?_, fun z => ?_⟩)
    · rw [hl, ← z] at e1
      rw [if_pos (Option.some.inj e1)] at eot
      rw [← e4, ← eot]
      exact hG5
    · rw [hl] at e1
      rw [if_neg (fun y => z (by rw [← e1, y]))] at eot
      rw [← e1, ← eot]
      exact hG5
end
