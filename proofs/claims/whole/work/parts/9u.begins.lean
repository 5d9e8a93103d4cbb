/-! ===== BEGIN (printed by wip/whole/gen9u.py) ===== -/
section
theorem k_gat {S : xm_S} {A : y_A} {X E B : Nat → Prop} {hb rb nb t w e1 e2 o tw q dp : Nat} (hM : kM S A X E B hb rb nb t w e1 e2) (ho : o < xm_n S 1 5) (h1 : xm_r S 6 o 1 = some tw) (hq : xm_r S 10 tw 0 = some q) (hd : dp ≤ 5) : rg_guardAt (nI o) (nI dp) A ∧ (xm_n S 1 q ≤ dp → rf_guardAt (nI o) (nI dp) A = -1) ∧ (∀ g, dp < xm_n S 1 q → xm_l S q dp = (5, g) → rf_guardAt (nI o) (nI dp) A = nI g ∧ g < xm_n S 1 3) ∧ xm_n S 1 q ≤ 5 := by
  have hbb := hM.1.2.2.1
  unfold k_bnd at hbb
  obtain ⟨tw', t1, t2, t3⟩ := (hM.1.2.2.2.2.2.2.2.2.2.2.2.1 o ho).2.1
  obtain rfl : tw = tw' := Option.some.inj (h1.symm.trans t1)
  obtain ⟨q', q1, q2, q3, q4, q5, q6⟩ := hM.1.2.2.2.2.2.2.2.2.2.2.2.2.2.2.2.1 tw t2
  obtain rfl : q = q' := Option.some.inj (hq.symm.trans q1)
  have ixo : y_ix (nI o) = o := y_ix_nI (by omega)
  have ixt : y_ix (nI tw) = tw := y_ix_nI (by omega)
  have ex : (5 : Int32) * nI tw + nI dp = nI (5 * tw + dp) := by rw [show (5 : Int32) = nI 5 from rfl, nI_mulc, nI_add]
  have ix5 : y_ix (nI (5 * tw + dp)) = 5 * tw + dp := y_ix_nI (by omega)
  have yo : y_in (nI o) 60 := y_in_nI (by omega) (by decide)
  have yt : y_in (nI tw) 11 := y_in_nI (by omega) (by decide)
  unfold rf_guardAt rg_guardAt
  rw [ixo, t3, ixt, q5, ex, ix5]
  refine ⟨⟨yo, yt, fun _ => trivial, fun z => ⟨y_in_nI ?_ (by decide), trivial⟩⟩, fun z => if_pos (nI_le z (by omega)), fun g h2 h3 => ?_, q4⟩
  · have : ¬ xm_n S 1 q ≤ dp := fun y => z (nI_le y (by omega))
    omega
  · obtain ⟨g', g1, g2, g3⟩ := q6 dp h2
    rw [if_neg (nI_ge h2 (by omega)), g3]
    rw [h3] at g1
    rw [← (Prod.mk.inj g1).2] at g2 ⊢
    exact ⟨rfl, g2⟩
/-- what the parent may still begin -/
theorem k_npo {S S' : xm_S} {A : y_A} {X E B : Nat → Prop} {hb rb nb t w e1 e2 o dp p : Nat} {gd st : Option Nat} {T D : Int32} (hM : kM S A X E B hb rb nb t w e1 e2) (ho : o < xm_n S 1 5) (hd : dp ≤ 5) (hp : kNp S A E hb o dp p) (hm : ∀ g m, xm_r S 2 p 4 = some g → xm_i S 2 p 16 = nI m → m ≤ 5 → m < k_mul S g) (hgd : ∀ g, gd = some g → k_tw S o dp g) (hs : kNs S S' o dp (some p) gd st T D) : 1 + k_po S' (xm_n S 1 6) + k_po S' p ≤ k_po S p := by
  obtain ⟨p1, p2, p3, p4, p5, p6, g, m, m1, m2, m3, -⟩ := hp
  obtain ⟨e, a1, a2, -⟩ := (hM.2.2.2.1 p p1).2.2.2
  rw [a2, nI_1] at p4
  obtain rfl : e + 1 = dp := (nI_eq (by omega) (by omega)).mp p4
  exact kNs.po hM hs ho p1 p3 a2 (by omega) m1 m2 m3 hgd (Or.inl (hm g m m1 m2 m3))
theorem kBG.z {D : Nat} : kBG (D + 2) [] := by
  intro S A B hb rb nb t w w' o dp tw q par rest hM hB ho htw hq hn hl hpar hnone hlen
  have hbb := hM.1.2.2.1
  unfold k_bnd at hbb
  have hn' : xm_n S 1 q = dp := by rw [hn]; rfl
  obtain ⟨tw', t1, t2, t3⟩ := (hM.1.2.2.2.2.2.2.2.2.2.2.2.1 o ho).2.1
  obtain rfl : tw = tw' := Option.some.inj (htw.symm.trans t1)
  have hq5 : xm_n S 1 q ≤ 5 := by
    obtain ⟨q', q1, q2, q3, q4, -⟩ := hM.1.2.2.2.2.2.2.2.2.2.2.2.2.2.2.2.1 tw t2
    rw [Option.some.inj (hq.symm.trans q1)]; exact q4
  have hd : dp ≤ 5 := by omega
  obtain ⟨g1, g2, -, -⟩ := k_gat hM ho htw hq hd
  obtain ⟨s, s1, s2, s3⟩ := (hM.1.2.2.2.2.2.2.2.2.2.2.2.1 o ho).2.2.1
  have h61 : A 61 0 = nI (xm_n S 1 6) := hM.1.2.1.2.2.2.2.2.2.1
  have hroom : xm_n S 1 6 < 4400 := by
    have hpot := hM.2.2.2.2.2.2.2.2.2.2.2.2.2.2.2.1
    unfold k_pot at hpot
    omega
  obtain ⟨n1, n2⟩ := c_newTry (d := D) (w' := w') (s := s) (dp := dp) (par := par) hM (fun k z => z.elim) (fun k z => z.elim) hB ho hd s2 (fun p z => ⟨(hpar p z).1, (hpar p z).2.1, fun S' T D' hs => by
    rw [z] at hs
    exact k_npo hM ho hd (hpar p z).2.1 (hpar p z).2.2 (fun g y => by cases y) hs⟩) hnone
  have hp : ∀ p, par = some p → p < xm_n S 1 6 := fun p z => (hpar p z).2.1.1
  obtain ⟨b1, b2⟩ := k_beg_t (A := A) (o := o) (d := dp) (par := par) (js := rest) h61 hroom (by omega) hp (g2 (by omega)) g1
  rw [s3] at b1 b2
  have fin : xc (D + 1) 17 [.inr (some (0, 0)), .inr (some (6, o)), .inr (xo 2 par), .inr none] S (fun r S9 => ∃ t11 : Option Nat, r = some (.inr (xo 2 t11)) ∧ xk_C S9 ∧ (∀ t12, (xm_r S9 6 o 2) = t12 → (xc (D + 1) 18 [.inr (some (0, 0)), .inr (xo 2 t11), .inr (xo 9 t12)] S9 (fun r S14 => r = none ∧ xk_C S14 ∧ kBp S A A (((0 : Int32), nI o, nI dp, kn par, (-1 : Int32)) :: rest) rest hb rb nb t w' (xm_n S 1 6) [] none S14)))) := by
    refine xc.mono n2 ?_
    rintro r S1 ⟨w1, w2, w3, w4⟩
    refine ⟨some (xm_n S 1 6), w1, w2, fun t12 e12 => ?_⟩
    rw [w3, s1] at e12
    rw [← e12]
    refine xc.mono w4 ?_
    rintro r S' ⟨v1, v2, v3, v4⟩
    refine ⟨v1, v2, rfl, v2, _, y_to.s (ks := rest) ?_ ?_ (y_to.rf _ _), v3, v4.B (Nat.le_refl _) _⟩
    · rw [y_ok_0]; exact b2 n1
    · rw [y_do_0]; exact b1
  refine cw_begin (d := D + 1) hM.1.1 ⟨fun z t2' e2 => ?_, fun p z t24 e24 => ?_⟩
  · subst z
    refine ⟨tw, e2.symm.trans htw, fun t5 e5 => ⟨q, e5.symm.trans hq, fun _ => fin, fun y => absurd ?_ y⟩⟩
    have := (hnone rfl).2.2.1
    exact nI_le (a := xm_n S 1 q) (b := 0) (by omega) (by omega)
  · subst z
    have hp4 := (hpar p rfl).2.1.2.2.2.1
    rw [hp4]
    refine ⟨tw, e24.symm.trans htw, fun _ => fin, fun _ t35 e35 => ⟨q, e35.symm.trans hq, fun _ => fin, fun y => absurd ?_ y⟩⟩
    exact nI_le (by omega) (by omega)
theorem c_enter {D : Nat} {gs : List Nat} (hD : 90 ≤ D) (IH : kBG D gs) {S : xm_S} {A : y_A} {hb rb nb t w n o dp g tw q : Nat} {rest : List y_J} (hM : kM S A (fun _ => False) (fun k => False ∨ k = n) (fun k => k = n ∧ (A 31 g = 3 ∨ A 31 g = 5)) hb rb nb t w 0 0) (h : kIn S A n o dp g tw q gs) (hz : kIz S A n) (hlen : rest.length + 400 ≤ 20000) : kEo (D + 3) S A hb rb nb t w n g gs rest := by
  have hn : n < xm_n S 1 6 := by
    have := h.1
    omega
  obtain ⟨r1, r2⟩ := (hM.2.2.1 g (hM.gb n g hn h.2.2.2.2.1)).1
  obtain ⟨z, z1, z2, z3⟩ := k_rg (x := A 31 g) (a := 0) (b := 9) (by decide) r1 r2
  obtain rfl | rfl | rfl | rfl | rfl | rfl | rfl | rfl | rfl | rfl : z = 0 ∨ z = 1 ∨ z = 2 ∨ z = 3 ∨ z = 4 ∨ z = 5 ∨ z = 6 ∨ z = 7 ∨ z = 8 ∨ z = 9 := by omega
  · exact c_ent0 hD IH hM h hz hlen z1
  · exact c_ent1 hD IH hM h hz hlen z1
  · exact c_ent2 hD IH hM h hz hlen z1
  · exact c_ent3 hD IH hM h hz hlen z1
  · exact c_ent4 hD IH hM h hz hlen z1
  · exact c_ent5 hD IH hM h hz hlen z1
  · exact c_ent6 hD IH hM h hz hlen z1
  · exact c_ent7 hD IH hM h hz hlen z1
  · exact c_ent8 hD IH hM h hz hlen z1
  · exact c_ent9 hD IH hM h hz hlen z1
theorem kBG.s {D g : Nat} {gs : List Nat} (hD : 90 ≤ D) (IH : kBG D gs) : kBG (D + 4) (g :: gs) := by
  intro S A B hb rb nb t w w' o dp tw q par rest hM hB ho htw hq hn hl hpar hnone hlen
  have hbb := hM.1.2.2.1
  unfold k_bnd at hbb
  have hn' : xm_n S 1 q = dp + 1 + gs.length := by rw [hn, List.length_cons]; omega
  obtain ⟨tw', t1, t2, t3⟩ := (hM.1.2.2.2.2.2.2.2.2.2.2.2.1 o ho).2.1
  obtain rfl : tw = tw' := Option.some.inj (htw.symm.trans t1)
  obtain ⟨q', q1, q2, q3, q4, -⟩ := hM.1.2.2.2.2.2.2.2.2.2.2.2.2.2.2.2.1 tw t2
  obtain rfl : q = q' := Option.some.inj (hq.symm.trans q1)
  have hd : dp ≤ 4 := by omega
  have hl0 : xm_l S q dp = (5, g) := hl 0 (by rw [List.length_cons]; omega)
  obtain ⟨g1, -, g3, -⟩ := k_gat hM ho htw hq (show dp ≤ 5 by omega)
  obtain ⟨gA, hgn⟩ := g3 g (by omega) hl0
  have h61 : A 61 0 = nI (xm_n S 1 6) := hM.1.2.1.2.2.2.2.2.2.1
  have hpot := hM.2.2.2.2.2.2.2.2.2.2.2.2.2.2.2.1
  have hroom : xm_n S 1 6 < 4400 := by
    unfold k_pot at hpot
    omega
  have j15 := hM.2.2.2.2.2.2.2.2.2.2.2.2.2.2.2.2.2.1
  have j16 := hM.2.2.2.2.2.2.2.2.2.2.2.2.2.2.2.2.2.2.1
  have hp : ∀ p, par = some p → p < xm_n S 1 6 := fun p z => (hpar p z).2.1.1
  have htwg : k_tw S o dp g := ⟨tw, q, htw, hq, by omega, hl0⟩
  have add := c_addCall (d := D + 2) (o := o) (dp := dp) (par := par) (gd := some g) hM hp (fun z => (hnone z).2.2.1) (fun p z => (hpar p z).2.1.2.2.2.1)
  have na := kAd.na (A := A) (n := xm_n S 1 6) (o := o) (d := dp) (par := par) (gd := some g) (st := none) hp
  have fin : xc (D + 3) 17 [.inr (some (0, 0)), .inr (some (6, o)), .inr (xo 2 par), .inr (some (5, g))] S (fun r S19 => ∃ t21 : Option Nat, r = some (.inr (xo 2 t21)) ∧ xk_C S19 ∧ (xc (D + 3) 19 [.inr (some (0, 0)), .inr (xo 2 t21), .inr (some (5, g))] S19 (fun r S22 => r = none ∧ xk_C S22 ∧ kBp S A A (((0 : Int32), nI o, nI dp, kn par, (-1 : Int32)) :: rest) rest hb rb nb t w' (xm_n S 1 6) (g :: gs) none S22))) := by
    refine xc.mono add ?_
    rintro r S1 ⟨w1, w2, w3⟩
    refine ⟨some (xm_n S 1 6), w1, w2, ?_⟩
    have hM1 := hM.newc (w' := w') w3 na (fun k z => z.elim) (fun k z => z.elim) ho (by omega) (fun g' z => by rw [← Option.some.inj z]; exact ⟨hgn, htwg⟩) (fun s z => by cases z) (fun z => by cases z) (fun z => by
      rw [j15] at z
      exact absurd (show (0 : Int32) ≤ nI t from nI_pos' (by omega)) (by rw [← z]; decide)) (fun g' _ _ => by
      rw [j15]
      have h0 : (0 : Int32) ≤ nI t := nI_pos' (by omega)
      exact Int32.lt_of_lt_of_le (by decide) h0) (fun p z => ⟨(hpar p z).1, (hpar p z).2.1, by
      rw [z] at w3
      exact k_npo hM ho (by omega) (hpar p z).2.1 (hpar p z).2.2 (fun g' y => by rw [← Option.some.inj y]; exact htwg) w3⟩) (fun z => ⟨(hnone z).1, (hnone z).2.1, (hnone z).2.2.1, kNs.po0' hM w3 z (hnone z).2.2.1 ho (fun g' y => by rw [← Option.some.inj y]; exact htwg), (hnone z).2.2.2⟩)
    have hL := w3.L hM hp (A' := kAd A (xm_n S 1 6) (nI o) (nI dp) par (kn (some g)) (kn none)) (fun x k hx => na.1 x k (by omega) (by omega) (by omega))
    have e31 : ∀ g', kAd A (xm_n S 1 6) (nI o) (nI dp) par (kn (some g)) (kn none) 31 g' = A 31 g' := fun g' => na.1 31 g' (by omega) (by omega) (by omega)
    have eE : (fun k => False ∨ (k = xm_n S 1 6 ∧ (some g : Option Nat) ≠ none)) = (fun k => False ∨ k = xm_n S 1 6) := funext fun k => propext (or_congr_right ⟨fun y => y.1, fun y => ⟨y, fun z => by cases z⟩⟩)
    have eB : (fun k => (B k ∧ par ≠ some k) ∨ (k = xm_n S 1 6 ∧ ∃ g', some g = some g' ∧ (A 31 g' = 3 ∨ A 31 g' = 5))) = (fun k => k = xm_n S 1 6 ∧ (kAd A (xm_n S 1 6) (nI o) (nI dp) par (kn (some g)) (kn none) 31 g = 3 ∨ kAd A (xm_n S 1 6) (nI o) (nI dp) par (kn (some g)) (kn none) 31 g = 5)) := by
      funext k
      rw [e31]
      refine propext ⟨fun y => ?_, fun y => Or.inr ⟨y.1, g, rfl, y.2⟩⟩
      rcases y with y | ⟨y1, g', y2, y3⟩
      · exact absurd (hB k y.1) y.2
      · rw [← Option.some.inj y2] at y3
        exact ⟨y1, y3⟩
    rw [eE, eB] at hM1
    obtain ⟨fI, fR, ⟨n0, n1, n2, n2', n3⟩, fl, ⟨⟨i0, i3, i5, i7, i8, i9, i10, i12, i13, i14, i16, i19⟩, ⟨r1, r2, r4, r6, r11, r15, r17, r18⟩⟩, fp, ff⟩ := w3
    obtain ⟨fa, ⟨a61, a62, a63, a64, a65, a66, a67, a68, a69, a70, a71, a72, a73, a74, a75, a76, a77, a78, a79⟩, fp73⟩ := na
    have hIn : kIn S1 (kAd A (xm_n S 1 6) (nI o) (nI dp) par (kn (some g)) (kn none)) (xm_n S 1 6) o dp g tw q gs := by
      refine ⟨by rw [n1, if_pos (Or.inl rfl)], i8, r1, i3, r4, i16, by rw [a75]; decide, by rw [a76]; decide, by rw [n1, if_neg (by decide)]; exact ho, ?_, ?_, by rw [n1, if_neg (by omega)]; exact hn', fun i hi => ?_, hd⟩
      · rw [fR 6 o 1 (fun y => absurd y.1 (by decide)) (fun y => absurd y.1 (by decide)) (fun y => absurd y.2.2.1 (by decide))]; exact htw
      · rw [fR 10 tw 0 (fun y => absurd y.1 (by decide)) (fun y => absurd y.1 (by decide)) (fun y => absurd y.1 (by decide))]; exact hq
      · rw [fl, if_neg (by omega)]
        have := hl (i + 1) (by rw [List.length_cons]; omega)
        rw [show dp + 1 + i = dp + (i + 1) by omega]
        exact this
    obtain ⟨A2, js2, u1, u2, u3⟩ := c_enter hD IH (rest := rest) hM1 hIn ⟨a77, a79, r15, i14⟩ hlen
    obtain ⟨b1, b2⟩ := k_beg_g (A := A) (o := o) (d := dp) (par := par) (js := rest) h61 hroom (by omega) hp (show g < 24 by omega) gA g1
    refine xc.mono u3 ?_
    intro r S' y
    obtain ⟨v1, v2, A', v3, v4, v5⟩ := y.pre (hL.B (Nat.le_refl _) (g :: gs))
    refine ⟨v1, v2, rfl, v2, A', y_to.s (B := A2) (ks := js2) ?_ ?_ v3, v4, v5⟩
    · rw [y_ok_0]; exact b2 u2
    · rw [y_do_0]; exact b1.trans u1
  refine cw_begin (d := D + 3) hM.1.1 ⟨fun z t2' e2 => ?_, fun p z t24 e24 => ?_⟩
  · subst z
    have hd0 := (hnone rfl).2.2.1
    refine ⟨tw, e2.symm.trans htw, fun t5 e5 => ⟨q, e5.symm.trans hq, fun y => absurd y ?_, fun _ => ⟨y_in_nI (k := 0) (by omega) (by omega), g, ?_, fin⟩⟩⟩
    · exact nI_ge (a := 0) (b := xm_n S 1 q) (by omega) (by omega)
    · rw [hd0] at hl0
      exact hl0
  · subst z
    have hp4 := (hpar p rfl).2.1.2.2.2.1
    rw [hp4]
    refine ⟨tw, e24.symm.trans htw, fun y => absurd y (nI_pos (by omega)), fun _ t35 e35 => ⟨q, e35.symm.trans hq, fun y => absurd y (nI_ge (by omega) (by omega)), fun _ => ⟨y_in_nI (by omega) (by omega), g, ?_, fin⟩⟩⟩
    rw [y_ix_nI (by omega)]
    exact hl0
theorem kBG.up {D D' : Nat} {gs : List Nat} (h : kBG D gs) (hd : D ≤ D') : kBG D' gs := fun S A B hb rb nb t w w' o dp tw q par rest a1 a2 a3 a4 a5 a6 a7 a8 a9 a10 => (h S A B hb rb nb t w w' o dp tw q par rest a1 a2 a3 a4 a5 a6 a7 a8 a9 a10).up hd
theorem kBG.l : ∀ gs, kBG (92 + 4 * gs.length) gs
  | [] => kBG.z (D := 90)
  | g :: gs => by
    have := kBG.s (g := g) (show 90 ≤ 92 + 4 * gs.length by omega) (kBG.l gs)
    rw [List.length_cons]
    exact this.up (by omega)
/-- a call begins -/
theorem kBG.all (gs : List Nat) (h : gs.length ≤ 5) : kBG 120 gs := (kBG.l gs).up (by omega)
/-- the guards of a tower from a depth on -/
theorem k_gls {S : xm_S} {A : y_A} {X E B : Nat → Prop} {hb rb nb t w e1 e2 tw q : Nat} (hM : kM S A X E B hb rb nb t w e1 e2) (ht : tw < xm_n S 1 4) (hq : xm_r S 10 tw 0 = some q) : ∀ r dp, dp + r = xm_n S 1 q → ∃ gs : List Nat, gs.length = r ∧ ∀ i (h : i < gs.length), xm_l S q (dp + i) = (5, gs[i]) := by
  obtain ⟨q', q1, q2, q3, q4, q5, q6⟩ := hM.1.2.2.2.2.2.2.2.2.2.2.2.2.2.2.2.1 tw ht
  obtain rfl : q = q' := Option.some.inj (hq.symm.trans q1)
  intro r
  induction r with
  | zero => exact fun dp _ => ⟨[], rfl, fun i h => absurd h (by simp)⟩
  | succ r ih =>
    intro dp hd
    obtain ⟨gs, g1, g2⟩ := ih (dp + 1) (by omega)
    obtain ⟨g, x1, x2, x3⟩ := q6 dp (by omega)
    refine ⟨g :: gs, by rw [List.length_cons, g1], fun i h => ?_⟩
    rcases i with _ | i
    · exact x1
    · rw [show dp + (i + 1) = dp + 1 + i by omega]
      exact g2 i (by rw [List.length_cons] at h; omega)
end
