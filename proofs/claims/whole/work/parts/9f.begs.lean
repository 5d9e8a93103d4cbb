/-! ===== THE REFERENCE BEGINS A CALL; STARTTRY (printed by wip/whole/gen9f.py) ===== -/
section
def kAc (A : y_A) (n : Nat) (o d p g s : Int32) : y_A := xm_u2 (xm_u2 (xm_u2 (xm_u2 (xm_u2 (xm_u2 (xm_u2 (xm_u2 (xm_u2 (xm_u2 (xm_u2 (xm_u2 (xm_u2 (xm_u2 (xm_u2 (xm_u2 (xm_u2 (xm_u2 (xm_u2 A 61 0 (nI (n + 1))) 62 n o) 63 n d) 64 n p) 65 n g) 66 n s) 67 n (A 0 0)) 68 n (-1 : Int32)) 69 n (0 : Int32)) 70 n (-1 : Int32)) 71 n (0 : Int32)) 72 n (-1 : Int32)) 73 n (0 : Int32)) 74 n (-1 : Int32)) 75 n (0 : Int32)) 76 n (0 : Int32)) 77 n (0 : Int32)) 78 n (0 : Int32)) 79 n (0 : Int32)
theorem kAc.o {A : y_A} {n : Nat} {o d p g s : Int32} {x k : Nat} (h1 : ¬ (x = 61 ∧ k = 0)) (h2 : ¬ (62 ≤ x ∧ x ≤ 79 ∧ k = n)) : kAc A n o d p g s x k = A x k := by
  unfold kAc
  rw [y_off (by omega), y_off (by omega), y_off (by omega), y_off (by omega), y_off (by omega), y_off (by omega), y_off (by omega), y_off (by omega), y_off (by omega), y_off (by omega), y_off (by omega), y_off (by omega), y_off (by omega), y_off (by omega), y_off (by omega), y_off (by omega), y_off (by omega), y_off (by omega), y_off (by omega)]
theorem kAc.v (A : y_A) (n : Nat) (o d p g s : Int32) : kAc A n o d p g s 61 0 = nI (n + 1) ∧ kAc A n o d p g s 62 n = o ∧ kAc A n o d p g s 63 n = d ∧ kAc A n o d p g s 64 n = p ∧ kAc A n o d p g s 65 n = g ∧ kAc A n o d p g s 66 n = s ∧ kAc A n o d p g s 67 n = (A 0 0) ∧ kAc A n o d p g s 68 n = (-1 : Int32) ∧ kAc A n o d p g s 69 n = (0 : Int32) ∧ kAc A n o d p g s 70 n = (-1 : Int32) ∧ kAc A n o d p g s 71 n = (0 : Int32) ∧ kAc A n o d p g s 72 n = (-1 : Int32) ∧ kAc A n o d p g s 73 n = (0 : Int32) ∧ kAc A n o d p g s 74 n = (-1 : Int32) ∧ kAc A n o d p g s 75 n = (0 : Int32) ∧ kAc A n o d p g s 76 n = (0 : Int32) ∧ kAc A n o d p g s 77 n = (0 : Int32) ∧ kAc A n o d p g s 78 n = (0 : Int32) ∧ kAc A n o d p g s 79 n = (0 : Int32) :=
  ⟨(y_off (by omega)).trans ((y_off (by omega)).trans ((y_off (by omega)).trans ((y_off (by omega)).trans ((y_off (by omega)).trans ((y_off (by omega)).trans ((y_off (by omega)).trans ((y_off (by omega)).trans ((y_off (by omega)).trans ((y_off (by omega)).trans ((y_off (by omega)).trans ((y_off (by omega)).trans ((y_off (by omega)).trans ((y_off (by omega)).trans ((y_off (by omega)).trans ((y_off (by omega)).trans ((y_off (by omega)).trans ((y_off (by omega)).trans (y_same _ _ _ _)))))))))))))))))), (y_off (by omega)).trans ((y_off (by omega)).trans ((y_off (by omega)).trans ((y_off (by omega)).trans ((y_off (by omega)).trans ((y_off (by omega)).trans ((y_off (by omega)).trans ((y_off (by omega)).trans ((y_off (by omega)).trans ((y_off (by omega)).trans ((y_off (by omega)).trans ((y_off (by omega)).trans ((y_off (by omega)).trans ((y_off (by omega)).trans ((y_off (by omega)).trans ((y_off (by omega)).trans ((y_off (by omega)).trans (y_same _ _ _ _))))))))))))))))), (y_off (by omega)).trans ((y_off (by omega)).trans ((y_off (by omega)).trans ((y_off (by omega)).trans ((y_off (by omega)).trans ((y_off (by omega)).trans ((y_off (by omega)).trans ((y_off (by omega)).trans ((y_off (by omega)).trans ((y_off (by omega)).trans ((y_off (by omega)).trans ((y_off (by omega)).trans ((y_off (by omega)).trans ((y_off (by omega)).trans ((y_off (by omega)).trans ((y_off (by omega)).trans (y_same _ _ _ _)))))))))))))))), (y_off (by omega)).trans ((y_off (by omega)).trans ((y_off (by omega)).trans ((y_off (by omega)).trans ((y_off (by omega)).trans ((y_off (by omega)).trans ((y_off (by omega)).trans ((y_off (by omega)).trans ((y_off (by omega)).trans ((y_off (by omega)).trans ((y_off (by omega)).trans ((y_off (by omega)).trans ((y_off (by omega)).trans ((y_off (by omega)).trans ((y_off (by omega)).trans (y_same _ _ _ _))))))))))))))), (y_off (by omega)).trans ((y_off (by omega)).trans ((y_off (by omega)).trans ((y_off (by omega)).trans ((y_off (by omega)).trans ((y_off (by omega)).trans ((y_off (by omega)).trans ((y_off (by omega)).trans ((y_off (by omega)).trans ((y_off (by omega)).trans ((y_off (by omega)).trans ((y_off (by omega)).trans ((y_off (by omega)).trans ((y_off (by omega)).trans (y_same _ _ _ _)))))))))))))), (y_off (by omega)).trans ((y_off (by omega)).trans ((y_off (by omega)).trans ((y_off (by omega)).trans ((y_off (by omega)).trans ((y_off (by omega)).trans ((y_off (by omega)).trans ((y_off (by omega)).trans ((y_off (by omega)).trans ((y_off (by omega)).trans ((y_off (by omega)).trans ((y_off (by omega)).trans ((y_off (by omega)).trans (y_same _ _ _ _))))))))))))), (y_off (by omega)).trans ((y_off (by omega)).trans ((y_off (by omega)).trans ((y_off (by omega)).trans ((y_off (by omega)).trans ((y_off (by omega)).trans ((y_off (by omega)).trans ((y_off (by omega)).trans ((y_off (by omega)).trans ((y_off (by omega)).trans ((y_off (by omega)).trans ((y_off (by omega)).trans (y_same _ _ _ _)))))))))))), (y_off (by omega)).trans ((y_off (by omega)).trans ((y_off (by omega)).trans ((y_off (by omega)).trans ((y_off (by omega)).trans ((y_off (by omega)).trans ((y_off (by omega)).trans ((y_off (by omega)).trans ((y_off (by omega)).trans ((y_off (by omega)).trans ((y_off (by omega)).trans (y_same _ _ _ _))))))))))), (y_off (by omega)).trans ((y_off (by omega)).trans ((y_off (by omega)).trans ((y_off (by omega)).trans ((y_off (by omega)).trans ((y_off (by omega)).trans ((y_off (by omega)).trans ((y_off (by omega)).trans ((y_off (by omega)).trans ((y_off (by omega)).trans (y_same _ _ _ _)))))))))), (y_off (by omega)).trans ((y_off (by omega)).trans ((y_off (by omega)).trans ((y_off (by omega)).trans ((y_off (by omega)).trans ((y_off (by omega)).trans ((y_off (by omega)).trans ((y_off (by omega)).trans ((y_off (by omega)).trans (y_same _ _ _ _))))))))), (y_off (by omega)).trans ((y_off (by omega)).trans ((y_off (by omega)).trans ((y_off (by omega)).trans ((y_off (by omega)).trans ((y_off (by omega)).trans ((y_off (by omega)).trans ((y_off (by omega)).trans (y_same _ _ _ _)))))))), (y_off (by omega)).trans ((y_off (by omega)).trans ((y_off (by omega)).trans ((y_off (by omega)).trans ((y_off (by omega)).trans ((y_off (by omega)).trans ((y_off (by omega)).trans (y_same _ _ _ _))))))), (y_off (by omega)).trans ((y_off (by omega)).trans ((y_off (by omega)).trans ((y_off (by omega)).trans ((y_off (by omega)).trans ((y_off (by omega)).trans (y_same _ _ _ _)))))), (y_off (by omega)).trans ((y_off (by omega)).trans ((y_off (by omega)).trans ((y_off (by omega)).trans ((y_off (by omega)).trans (y_same _ _ _ _))))), (y_off (by omega)).trans ((y_off (by omega)).trans ((y_off (by omega)).trans ((y_off (by omega)).trans (y_same _ _ _ _)))), (y_off (by omega)).trans ((y_off (by omega)).trans ((y_off (by omega)).trans (y_same _ _ _ _))), (y_off (by omega)).trans ((y_off (by omega)).trans (y_same _ _ _ _)), (y_off (by omega)).trans (y_same _ _ _ _), y_same _ _ _ _⟩
def kAd (A : y_A) (n : Nat) (o d : Int32) (par : Option Nat) (g s : Int32) : y_A := match par with
  | none => kAc A n o d (-1) g s
  | some p => xm_u2 (kAc A n o d (nI p) g s) 73 p (A 73 p + 1)
theorem kAd.na {A : y_A} {n o d : Nat} {par gd st : Option Nat} (hp : ∀ p, par = some p → p < n) : kNa A (kAd A n (nI o) (nI d) par (kn gd) (kn st)) n o d par gd st (-1) := by
  rcases par with _ | p
  · obtain ⟨v61, v62, v63, v64, v65, v66, v67, v68, v69, v70, v71, v72, v73, v74, v75, v76, v77, v78, v79⟩ := kAc.v A n (nI o) (nI d) (-1) (kn gd) (kn st)
    exact ⟨fun x k z1 z2 _ => kAc.o z1 z2, ⟨v61, v62, v63, v64, v65, v66, v67, v68, v69, v70, v71, v72, v73, v74, v75, v76, v77, v78, v79⟩, fun p z => by cases z⟩
  · have hpn := hp p rfl
    obtain ⟨v61, v62, v63, v64, v65, v66, v67, v68, v69, v70, v71, v72, v73, v74, v75, v76, v77, v78, v79⟩ := kAc.v A n (nI o) (nI d) (nI p) (kn gd) (kn st)
    have f : ∀ x k, ¬ (x = 73 ∧ k = p) → kAd A n (nI o) (nI d) (some p) (kn gd) (kn st) x k = kAc A n (nI o) (nI d) (nI p) (kn gd) (kn st) x k := fun x k z => y_off z
    refine ⟨fun x k z1 z2 z3 => (f x k (fun y => z3 ⟨y.1, by rw [y.2]⟩)).trans (kAc.o z1 z2), ⟨(f _ _ (by omega)).trans v61, (f _ _ (by omega)).trans v62, (f _ _ (by omega)).trans v63, (f _ _ (by omega)).trans v64, (f _ _ (by omega)).trans v65, (f _ _ (by omega)).trans v66, (f _ _ (by omega)).trans v67, (f _ _ (by omega)).trans v68, (f _ _ (by omega)).trans v69, (f _ _ (by omega)).trans v70, (f _ _ (by omega)).trans v71, (f _ _ (by omega)).trans v72, (f _ _ (by omega)).trans v73, (f _ _ (by omega)).trans v74, (f _ _ (by omega)).trans v75, (f _ _ (by omega)).trans v76, (f _ _ (by omega)).trans v77, (f _ _ (by omega)).trans v78, (f _ _ (by omega)).trans v79⟩, fun p' z => ?_⟩
    rw [← Option.some.inj z]
    exact y_same _ _ _ _
theorem kNa.due {A A1 : y_A} {n o d : Nat} {par gd st : Option Nat} {D : Int32} (h : kNa A A1 n o d par gd st (-1)) : kNa A (xm_u2 A1 72 n D) n o d par gd st D := by
  obtain ⟨fa, ⟨v61, v62, v63, v64, v65, v66, v67, v68, v69, v70, v71, v72, v73, v74, v75, v76, v77, v78, v79⟩, fp⟩ := h
  exact ⟨fun x k z1 z2 z3 => (y_off (by omega)).trans (fa x k z1 z2 z3), ⟨(y_off (by omega)).trans v61, (y_off (by omega)).trans v62, (y_off (by omega)).trans v63, (y_off (by omega)).trans v64, (y_off (by omega)).trans v65, (y_off (by omega)).trans v66, (y_off (by omega)).trans v67, (y_off (by omega)).trans v68, (y_off (by omega)).trans v69, (y_off (by omega)).trans v70, (y_off (by omega)).trans v71, y_same _ _ _ _, (y_off (by omega)).trans v73, (y_off (by omega)).trans v74, (y_off (by omega)).trans v75, (y_off (by omega)).trans v76, (y_off (by omega)).trans v77, (y_off (by omega)).trans v78, (y_off (by omega)).trans v79⟩, fun p z => (y_off (by omega)).trans (fp p z)⟩
theorem k_gA (a b v : Int32) (A : y_A) : rf_guardAt a b (xm_u2 A 61 0 v) = rf_guardAt a b A ∧ (rg_guardAt a b A → rg_guardAt a b (xm_u2 A 61 0 v)) := by
  unfold rf_guardAt rg_guardAt
  rw [y_off (by omega), y_off (by omega), y_off (by omega)]
  exact ⟨rfl, fun z => z⟩
theorem k_beg_s {A : y_A} {n o d : Nat} {par : Option Nat} {js : List y_J} (h61 : A 61 0 = nI n) (hn : n < 4400) (ho : o < 60) (hp : ∀ p, par = some p → p < n) {s : Nat} (hs : s < 8) : rf_begins (nI o) (nI d) (kn par) (nI s) A js = (xm_u2 (kAd A n (nI o) (nI d) par (-1) (nI s)) 72 n (rf_tryEnd (nI s) (A 53 o) (kAd A n (nI o) (nI d) par (-1) (nI s))), js) ∧ (rg_tryEnd (nI s) (A 53 o) (kAd A n (nI o) (nI d) par (-1) (nI s)) → rg_begins (nI o) (nI d) (kn par) (nI s) A js) := by
  have ixn : y_ix (nI n) = n := y_ix_nI (by omega)
  have ixo : y_ix (nI o) = o := y_ix_nI (by omega)
  have yn : y_in (nI n) 4400 := y_in_nI hn (by decide)
  have yo : y_in (nI o) 60 := y_in_nI ho (by decide)
  have c4 : ¬ nI s < 0 := nI_pos (by omega)
  unfold rf_begins rg_begins
  rw [h61, ixn, ixo, nI_1]
  rcases par with _ | p
  · have c3 : kn none < 0 := by decide
    refine ⟨?_, fun z => ?_⟩
    · rw [if_neg c4, if_pos c3]
      rfl
    · exact ⟨fun y => absurd y c4, fun _ => ⟨yn, fun _ => ⟨yo, z, trivial⟩, fun y => absurd c3 y⟩⟩
  · have hpn := hp p rfl
    have c3 : ¬ kn (some p) < 0 := nI_pos (by omega)
    have ixp : y_ix (kn (some p)) = p := y_ix_nI (by omega)
    have yp : y_in (kn (some p)) 4400 := y_in_nI (by omega) (by decide)
    have e73 : xm_u2 A 73 n (0 : Int32) 73 p = A 73 p := y_off (by omega)
    rw [ixp, e73]
    refine ⟨?_, fun z => ?_⟩
    · rw [if_neg c4, if_neg c3]
      rfl
    · exact ⟨fun y => absurd y c4, fun _ => ⟨yn, fun y => absurd y c3, fun _ => ⟨yp, yo, z, trivial⟩⟩⟩
theorem k_beg_t {A : y_A} {n o d : Nat} {par : Option Nat} {js : List y_J} (h61 : A 61 0 = nI n) (hn : n < 4400) (ho : o < 60) (hp : ∀ p, par = some p → p < n) (hG : rf_guardAt (nI o) (nI d) A = -1) (hg : rg_guardAt (nI o) (nI d) A) : rf_begins (nI o) (nI d) (kn par) (-1) A js = (xm_u2 (kAd A n (nI o) (nI d) par (-1) (A 52 o)) 72 n (rf_tryEnd (A 52 o) (A 53 o) (kAd A n (nI o) (nI d) par (-1) (A 52 o))), js) ∧ (rg_tryEnd (A 52 o) (A 53 o) (kAd A n (nI o) (nI d) par (-1) (A 52 o)) → rg_begins (nI o) (nI d) (kn par) (-1) A js) := by
  have ixn : y_ix (nI n) = n := y_ix_nI (by omega)
  have ixo : y_ix (nI o) = o := y_ix_nI (by omega)
  have yn : y_in (nI n) 4400 := y_in_nI hn (by decide)
  have yo : y_in (nI o) 60 := y_in_nI ho (by decide)
  have c4 : (-1 : Int32) < 0 := by decide
  unfold rf_begins rg_begins
  rw [h61, ixn, ixo, nI_1, (k_gA _ _ _ _).1, hG]
  rcases par with _ | p
  · have c3 : kn none < 0 := by decide
    refine ⟨?_, fun z => ?_⟩
    · rw [if_pos c4, if_pos c4, if_pos c3]
      rfl
    · exact ⟨fun _ => ⟨(k_gA _ _ _ _).2 hg, yn, fun _ => ⟨yo, fun _ => ⟨z, trivial⟩, fun y => absurd c3 y⟩, fun y => absurd c4 y⟩, fun y => absurd c4 y⟩
  · have hpn := hp p rfl
    have c3 : ¬ kn (some p) < 0 := nI_pos (by omega)
    have ixp : y_ix (kn (some p)) = p := y_ix_nI (by omega)
    have yp : y_in (kn (some p)) 4400 := y_in_nI (by omega) (by decide)
    have e73 : xm_u2 A 73 n (0 : Int32) 73 p = A 73 p := y_off (by omega)
    rw [ixp, e73]
    refine ⟨?_, fun z => ?_⟩
    · rw [if_pos c4, if_pos c4, if_neg c3]
      rfl
    · exact ⟨fun _ => ⟨(k_gA _ _ _ _).2 hg, yn, fun _ => ⟨yo, fun y => absurd y c3, fun _ => ⟨yp, z, trivial⟩⟩, fun y => absurd c4 y⟩, fun y => absurd c4 y⟩
theorem k_beg_g {A : y_A} {n o d : Nat} {par : Option Nat} {js : List y_J} (h61 : A 61 0 = nI n) (hn : n < 4400) (ho : o < 60) (hp : ∀ p, par = some p → p < n) {g : Nat} (hgb : g < 24) (hG : rf_guardAt (nI o) (nI d) A = nI g) (hg : rg_guardAt (nI o) (nI d) A) : rf_begins (nI o) (nI d) (kn par) (-1) A js = rf_entered (nI n) (nI g) (kAd A n (nI o) (nI d) par (nI g) (-1)) js ∧ (rg_entered (nI n) (nI g) (kAd A n (nI o) (nI d) par (nI g) (-1)) js → rg_begins (nI o) (nI d) (kn par) (-1) A js) := by
  have ixn : y_ix (nI n) = n := y_ix_nI (by omega)
  have ixo : y_ix (nI o) = o := y_ix_nI (by omega)
  have yn : y_in (nI n) 4400 := y_in_nI hn (by decide)
  have yo : y_in (nI o) 60 := y_in_nI ho (by decide)
  have c4 : (-1 : Int32) < 0 := by decide
  have c5 : ¬ nI g < 0 := nI_pos (by omega)
  unfold rf_begins rg_begins
  rw [h61, ixn, ixo, nI_1, (k_gA _ _ _ _).1, hG]
  rcases par with _ | p
  · have c3 : kn none < 0 := by decide
    refine ⟨?_, fun z => ?_⟩
    · rw [if_pos c4, if_neg c5, if_pos c3]
      rfl
    · exact ⟨fun _ => ⟨(k_gA _ _ _ _).2 hg, yn, fun y => absurd y c5, fun _ => ⟨fun _ => ⟨z, trivial⟩, fun y => absurd c3 y⟩⟩, fun y => absurd c4 y⟩
  · have hpn := hp p rfl
    have c3 : ¬ kn (some p) < 0 := nI_pos (by omega)
    have ixp : y_ix (kn (some p)) = p := y_ix_nI (by omega)
    have yp : y_in (kn (some p)) 4400 := y_in_nI (by omega) (by decide)
    have e73 : xm_u2 A 73 n (0 : Int32) 73 p = A 73 p := y_off (by omega)
    rw [ixp, e73]
    refine ⟨?_, fun z => ?_⟩
    · rw [if_pos c4, if_neg c5, if_neg c3]
      rfl
    · exact ⟨fun _ => ⟨(k_gA _ _ _ _).2 hg, yn, fun y => absurd y c5, fun _ => ⟨fun y => absurd y c3, fun _ => ⟨yp, z, trivial⟩⟩⟩, fun y => absurd c4 y⟩
/-- Later, with one call more -/
theorem kNs.L {S S' : xm_S} {A A' : y_A} {X E B : Nat → Prop} {hb rb nb t w e1 e2 o d : Nat} {par gd st : Option Nat} {T D : Int32} (hM : kM S A X E B hb rb nb t w e1 e2) (hs : kNs S S' o d par gd st T D) (hp : ∀ p, par = some p → p < (xm_n S 1 6)) (ha : ∀ x k, x < 61 ∨ 80 ≤ x → A' x k = A x k) : kL S S' A A' := by
  obtain ⟨fI, fR, ⟨n0, n1, n2, n2', n3⟩, fl, ⟨⟨i0, i3, i5, i7, i8, i9, i10, i12, i13, i14, i16, i19⟩, ⟨r1, r2, r4, r6, r11, r15, r17, r18⟩⟩, fp, ff⟩ := hs
  obtain ⟨T', hT, hT2, hT3⟩ := hM.T
  have h3 := hM.1.2.2.2.2.2.2.2.2.1
  have hI : ∀ q j, q < (xm_n S 1 6) → j ≠ 16 → xm_i S' 2 q j = xm_i S 2 q j := fun q j z1 z2 => fI 2 q j (by omega) (fun z => z2 z.2.2)
  have hR : ∀ q j, q < (xm_n S 1 6) → j ≠ 17 → xm_r S' 2 q j = xm_r S 2 q j := fun q j z1 z2 => fR 2 q j (by omega) (fun z => z2 z.2.2) (fun z => absurd z.1 (by decide))
  have oI : ∀ p q j, p ≠ 2 → xm_i S' p q j = xm_i S p q j := fun p q j z => fI p q j (fun y => z y.1) (fun y => z y.1)
  have N1 : ∀ r, r ≠ 6 → r ≠ 7 → xm_n S' 1 r = xm_n S 1 r := fun r z1 z2 => by rw [n1, if_neg (by omega)]
  have N6 : xm_n S' 1 6 = (xm_n S 1 6) + 1 := by rw [n1, if_pos (Or.inl rfl)]
  have N7 : xm_n S' 1 7 = xm_n S 1 7 + 1 := by rw [n1, if_pos (Or.inr rfl)]
  have how : k_hows S' 3 = k_hows S 3 := by
    unfold k_hows
    rw [N6]
    show xs _ (xm_n S 1 6) + (if xm_i S' 2 (xm_n S 1 6) 8 = 3 then 1 else 0) = _
    rw [i8, if_neg (by decide), Nat.add_zero]
    exact xs_congr (fun i hi => by rw [hI i 8 hi (by decide)])
  refine ⟨⟨fun r hr => N1 r (by omega) (by omega), by omega, by omega, by rw [N1 8 (by decide) (by decide)]; exact Nat.le_refl _⟩, fun i hi => ?_, fun k hk => ?_, fun k h1 h2 => ?_, fun g hg => ⟨ha 31 g (by decide), oI 5 g 1 (by decide), fun q hq => ?_⟩, fun o' _ => ?_, ⟨ha 0 0 (by decide), oI 0 0 13 (by decide)⟩, ?_, ⟨by rw [how]; exact Nat.le_refl _, fun i _ => ha 81 i (by decide)⟩, ⟨T', T', hT, (oI 0 0 15 (by decide)).trans hT, Nat.le_refl _, hT2, fun k s hk _ z => by rw [hI k 19 hk (by decide)] at z; exact z⟩⟩
  · rw [fl, if_neg (by omega)]
  · refine ⟨hR k 1 hk (by decide), hR k 2 hk (by decide), hR k 4 hk (by decide), hI k 3 hk (by decide), hI k 14 hk (by decide), hR k 15 hk (by decide), fun z => by rw [← hI k 8 hk (by decide)]; exact z, fun _ => ⟨hI k 8 hk (by decide), hI k 9 hk (by decide), hI k 10 hk (by decide), hR k 11 hk (by decide), hI k 7 hk (by decide), hI k 19 hk (by decide)⟩⟩
  · rw [show k = (xm_n S 1 6) by omega]
    exact ⟨r15, i14⟩
  · obtain ⟨q', y1, y2, -⟩ := (h3 g hg).2.2.2.2.2.2.2.2.2.2.2.2.1
    have hq12 : 12 ≤ q := by rw [← Option.some.inj (y1.symm.trans hq)]; exact y2
    exact ⟨(fR 5 g 12 (fun y => absurd y.1 (by decide)) (fun y => absurd y.1 (by decide)) (fun y => absurd y.1 (by decide))).trans hq, by rw [N1 q (by omega) (by omega)]; exact Nat.le_refl _⟩
  · exact ⟨fR 6 o' 2 (fun y => absurd y.1 (by decide)) (fun y => absurd y.1 (by decide)) (fun y => absurd y.2.2.1 (by decide)), oI 6 o' 3 (by decide), oI 6 o' 4 (by decide)⟩
  · rw [oI 0 0 14 (by decide), ha 60 0 (by decide)]
theorem k_rg {x : Int32} {a b : Nat} (hb : b < 2 ^ 31) (h1 : nI a ≤ x) (h2 : x ≤ nI b) (hab : a ≤ b := by decide) : ∃ z : Nat, x = nI z ∧ a ≤ z ∧ z ≤ b := by
  have h0 : ¬ x < 0 := Int32.not_lt.mpr (Int32.le_trans (nI_pos' (by omega)) h1)
  obtain ⟨z, hz, rfl⟩ := nI_of h0
  exact ⟨z, rfl, (nI_leI (by omega) hz).mp h1, (nI_leI hz hb).mp h2⟩
/-- the loop of startTry -/
theorem c_try {S S1 : xm_S} {A A1 : y_A} {n s m o t : Nat} {act : Int32} (hC : xk_C S1) (hm : xm_n S 1 2 = m) (hm30 : m ≤ 30) (hs8 : s < 8) (ho : xm_r S1 2 n 1 = some o) (hact : xm_i S1 6 o 3 = act) (hkw : ∀ k, k < m → kw S A 2 12 k) (hsp : ∀ k, k < m → 1 ≤ A 16 k ∧ A 16 k ≤ 1000) (hb0 : xm_n S 1 0 ≤ 8) (hT : A 0 0 = nI t) (hT1 : xm_i S1 0 0 13 = A 0 0) (h11 : A 11 0 = nI m)
    (n2 : xm_n S1 1 2 = xm_n S 1 2) (l2 : ∀ i, xm_l S1 2 i = xm_l S 2 i) (f8 : ∀ q j, xm_i S1 8 q j = xm_i S 8 q j) (g8 : ∀ q j, xm_r S1 8 q j = xm_r S 8 q j) (hA : ∀ x k, x < 61 → A1 x k = A x k) {d : Nat} : ∀ (r k N x : Nat), k + r = m → r < N → 1 ≤ x → x ≤ 100 + 1000 * k →
    rg_tryEnd_15 N (nI s) act (A 0 0 + nI x) (nI k) A1 ∧ (∃ y, (rf_tryEnd_15 N (nI s) act (A 0 0 + nI x) (nI k) A1).1 = A 0 0 + nI y ∧ 1 ≤ y ∧ y ≤ 100 + 1000 * m) ∧ ∀ Q : Option xm_V → xm_S → Prop, Q none (xm_si (xm_sr S1 2 n 6 (some s)) 2 n 12 (rf_tryEnd_15 N (nI s) act (A 0 0 + nI x) (nI k) A1).1) → xw (d + 1) 18 8 [some (.inr (some (0, 0))), some (.inr (some (2, n))), some (.inr (some (9, s))), some (.inl (nI x)), some (.inl (nI k))] [] S1 Q := by
  intro r
  induction r with
  | zero =>
    intro k N x hk hN hx1 hx2
    obtain ⟨N, rfl⟩ : ∃ j, N = j + 1 := ⟨N - 1, by omega⟩
    have cc : nI m ≤ nI k := nI_le (by omega) (by omega)
    unfold rg_tryEnd_15 rf_tryEnd_15
    rw [hA 11 0 (by decide), h11, if_pos cc]
    refine ⟨⟨fun _ => trivial, fun z => absurd cc z⟩, ⟨x, rfl, hx1, by omega⟩, fun Q hQ => ?_⟩
    refine cw_startTry_8 hC ⟨fun _ S2 e2 S4 e4 => ?_, fun z => absurd (by rw [n2, hm]; exact cc) z⟩
    subst e2
    rw [hT1] at e4
    subst e4
    exact hQ
  | succ r ih =>
    intro k N x hk hN hx1 hx2
    obtain ⟨N, rfl⟩ : ∃ j, N = j + 1 := ⟨N - 1, by omega⟩
    have cc : ¬ nI m ≤ nI k := nI_ge (by omega) (by omega)
    have ixk : y_ix (nI k) = k := y_ix_nI (by omega)
    have yk : y_in (nI k) 30 := y_in_nI (by omega) (by decide)
    have hkm : k < m := by omega
    obtain ⟨e, y1, y2, ⟨s', y3, y4, y5⟩, y6, y7, y8, y9⟩ := hkw k hkm
    obtain ⟨z, hz1, hz2, hz3⟩ := k_rg (x := A 16 k) (a := 1) (b := 1000) (by decide) (hsp k hkm).1 (hsp k hkm).2
    have i12 : A1 12 k = nI s' := (hA 12 k (by decide)).trans y5
    have i13 : A1 13 k = xm_i S1 8 e 1 := (hA 13 k (by decide)).trans ((f8 e 1).trans y6).symm
    have i14 : A1 14 k = xm_i S1 8 e 2 := (hA 14 k (by decide)).trans ((f8 e 2).trans y7).symm
    have i15 : A1 15 k = xm_i S1 8 e 3 := (hA 15 k (by decide)).trans ((f8 e 3).trans y8).symm
    have i16 : A1 16 k = nI z := (hA 16 k (by decide)).trans hz1
    have i16' : xm_i S1 8 e 4 = nI z := ((f8 e 4).trans y9).trans hz1
    obtain ⟨s1, s2, s3⟩ := ih (k + 1) N x (by omega) (by omega) hx1 (by omega)
    obtain ⟨p1, p2, p3⟩ := ih (k + 1) N (x + z) (by omega) (by omega) (by omega) (by omega)
    have ea : A 0 0 + nI x + nI z = A 0 0 + nI (x + z) := by rw [Int32.add_assoc, nI_add]
    have cs : (nI s' = nI s) ↔ some s' = some s := ⟨fun z => by rw [(nI_eq (by omega) (by omega)).mp z], fun z => by rw [Option.some.inj z]⟩
    unfold rg_tryEnd_15 rf_tryEnd_15
    rw [hA 11 0 (by decide), h11, if_neg cc, ixk, i12, i13, i14, i15, i16, nI_1, hA 0 0 (by decide), ea]
    have head : ∀ Q : Option xm_V → xm_S → Prop, ((some s' = some s → (xm_i S1 8 e 1 = act → (A 0 0 < xm_i S1 8 e 2 → xw (d + 1) 18 8 [some (.inr (some (0, 0))), some (.inr (some (2, n))), some (.inr (some (9, s))), some (.inl (nI x)), some (.inl (nI (k + 1)))] [] S1 Q) ∧ (¬ A 0 0 < xm_i S1 8 e 2 → (xm_i S1 8 e 3 < A 0 0 → xw (d + 1) 18 8 [some (.inr (some (0, 0))), some (.inr (some (2, n))), some (.inr (some (9, s))), some (.inl (nI x)), some (.inl (nI (k + 1)))] [] S1 Q) ∧ (¬ xm_i S1 8 e 3 < A 0 0 → xw (d + 1) 18 8 [some (.inr (some (0, 0))), some (.inr (some (2, n))), some (.inr (some (9, s))), some (.inl (nI (x + z))), some (.inl (nI (k + 1)))] [] S1 Q))) ∧ (¬ xm_i S1 8 e 1 = act → xw (d + 1) 18 8 [some (.inr (some (0, 0))), some (.inr (some (2, n))), some (.inr (some (9, s))), some (.inl (nI x)), some (.inl (nI (k + 1)))] [] S1 Q)) ∧ (¬ some s' = some s → xw (d + 1) 18 8 [some (.inr (some (0, 0))), some (.inr (some (2, n))), some (.inr (some (9, s))), some (.inl (nI x)), some (.inl (nI (k + 1)))] [] S1 Q)) → xw (d + 1) 18 8 [some (.inr (some (0, 0))), some (.inr (some (2, n))), some (.inr (some (9, s))), some (.inl (nI x)), some (.inl (nI k))] [] S1 Q := fun Q h => by
      obtain ⟨h1, h2⟩ := h
      refine cw_startTry_8 hC ⟨fun y => absurd (by rw [n2, hm] at y; exact y) cc, fun _ => ⟨by rw [n2, hm]; exact y_in_nI hkm (by omega), e, by rw [ixk, l2]; exact y1, fun t9 e9 => ⟨o, e9.symm.trans ho, fun t12 e12 => ?_⟩⟩⟩
      rw [g8, y3] at e12
      rw [← e12, hact, hT1, i16', nI_add, nI_1, n2, hm]
      exact ⟨fun u => ⟨fun v => ⟨fun a => ((h1 u).1 v).1 a, fun a => ⟨fun b => (((h1 u).1 v).2 a).1 b, fun b => ⟨y_in_nI hkm (by omega), (((h1 u).1 v).2 a).2 b⟩⟩⟩, fun v => (h1 u).2 v⟩, h2⟩
    by_cases c1 : nI s' = nI s
    · rw [if_pos c1]
      by_cases c2 : xm_i S1 8 e 1 = act
      · rw [if_pos c2]
        by_cases c3 : A 0 0 < xm_i S1 8 e 2
        · rw [if_pos c3]
          exact ⟨⟨fun y => absurd y cc, fun _ => ⟨yk, fun _ => ⟨fun _ => ⟨fun _ => s1, fun y => absurd c3 y⟩, fun y => absurd c2 y⟩, fun y => absurd c1 y⟩⟩, s2, fun Q hQ => head Q ⟨fun _ => ⟨fun _ => ⟨fun _ => s3 Q hQ, fun y => absurd c3 y⟩, fun y => absurd c2 y⟩, fun y => absurd (cs.mp c1) y⟩⟩
        · rw [if_neg c3]
          by_cases c4 : xm_i S1 8 e 3 < A 0 0
          · rw [if_pos c4]
            exact ⟨⟨fun y => absurd y cc, fun _ => ⟨yk, fun _ => ⟨fun _ => ⟨fun y => absurd y c3, fun _ => ⟨fun _ => s1, fun y => absurd c4 y⟩⟩, fun y => absurd c2 y⟩, fun y => absurd c1 y⟩⟩, s2, fun Q hQ => head Q ⟨fun _ => ⟨fun _ => ⟨fun y => absurd y c3, fun _ => ⟨fun _ => s3 Q hQ, fun y => absurd c4 y⟩⟩, fun y => absurd c2 y⟩, fun y => absurd (cs.mp c1) y⟩⟩
          · rw [if_neg c4]
            exact ⟨⟨fun y => absurd y cc, fun _ => ⟨yk, fun _ => ⟨fun _ => ⟨fun y => absurd y c3, fun _ => ⟨fun y => absurd y c4, fun _ => p1⟩⟩, fun y => absurd c2 y⟩, fun y => absurd c1 y⟩⟩, p2, fun Q hQ => head Q ⟨fun _ => ⟨fun _ => ⟨fun y => absurd y c3, fun _ => ⟨fun y => absurd y c4, fun _ => p3 Q hQ⟩⟩, fun y => absurd c2 y⟩, fun y => absurd (cs.mp c1) y⟩⟩
      · rw [if_neg c2]
        exact ⟨⟨fun y => absurd y cc, fun _ => ⟨yk, fun _ => ⟨fun y => absurd y c2, fun _ => s1⟩, fun y => absurd c1 y⟩⟩, s2, fun Q hQ => head Q ⟨fun _ => ⟨fun y => absurd y c2, fun _ => s3 Q hQ⟩, fun y => absurd (cs.mp c1) y⟩⟩
    · rw [if_neg c1]
      exact ⟨⟨fun y => absurd y cc, fun _ => ⟨yk, fun y => absurd y c1, fun _ => s1⟩⟩, s2, fun Q hQ => head Q ⟨fun y => absurd (cs.mpr y) c1, fun _ => s3 Q hQ⟩⟩
end
