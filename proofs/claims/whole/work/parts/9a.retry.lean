/-! ===== A RETRY IS TOLD (printed by wip/whole/gen9a.py) ===== -/
section
/-- failures that are SUPPRESSED under another -/
noncomputable def kSu (A : y_A) (P : Nat → Prop) (m : Nat) : y_A := fun x i => @ite Int32 (x = 29 ∧ P i ∧ A 29 i = -1 ∧ i ≠ m) (Classical.propDecidable _) (nI m) (A x i)
theorem kSu.o {A : y_A} {P : Nat → Prop} {m x i : Nat} (h : ¬ (x = 29 ∧ P i ∧ A 29 i = -1 ∧ i ≠ m)) : kSu A P m x i = A x i := if_neg h
theorem kSu.y {A : y_A} {P : Nat → Prop} {m i : Nat} (h : P i ∧ A 29 i = -1 ∧ i ≠ m) : kSu A P m 29 i = nI m := if_pos ⟨rfl, h⟩
theorem kSu.c {A : y_A} {P P' : Nat → Prop} {m : Nat} (h : ∀ i, P i ↔ P' i) : kSu A P m = kSu A P' m := by
  have : P = P' := funext fun i => propext (h i)
  rw [this]
theorem kSu.z {A : y_A} {P : Nat → Prop} {m : Nat} (h : ∀ i, ¬ P i) : kSu A P m = A := funext fun x => funext fun i => kSu.o (fun z => h i z.2.1)
/-- one more -/
theorem kSu.s {A : y_A} {P : Nat → Prop} {m f : Nat} (hne : f ≠ m) (h29 : kSu A P m 29 f = -1) (hm : m < 2 ^ 31) : xm_u2 (kSu A P m) 29 f (nI m) = kSu A (fun i => P i ∨ i = f) m := by
  have hA : A 29 f = -1 := by
    by_cases z : P f ∧ A 29 f = -1 ∧ f ≠ m
    · exact z.2.1
    · rw [kSu.o (fun y => z y.2)] at h29; exact h29
  funext x i
  by_cases e : x = 29 ∧ i = f
  · rw [e.1, e.2, y_same, kSu.y ⟨Or.inr rfl, hA, hne⟩]
  · rw [y_off e]
    by_cases z : x = 29 ∧ P i ∧ A 29 i = -1 ∧ i ≠ m
    · rw [z.1, kSu.y z.2, kSu.y ⟨Or.inl z.2.1, z.2.2⟩]
    · rw [kSu.o z, kSu.o (fun y => by
        rcases y.2.1 with u | u
        · exact z ⟨y.1, u, y.2.2⟩
        · exact e ⟨y.1, u⟩)]
theorem kSu.n {A : y_A} {P : Nat → Prop} {m f : Nat} (h : f = m ∨ kSu A P m 29 f ≠ -1) (hm : m < 2 ^ 31) : kSu A P m = kSu A (fun i => P i ∨ i = f) m := by
  funext x i
  by_cases z : x = 29 ∧ P i ∧ A 29 i = -1 ∧ i ≠ m
  · rw [z.1, kSu.y z.2, kSu.y ⟨Or.inl z.2.1, z.2.2⟩]
  · rw [kSu.o z]
    by_cases e : x = 29 ∧ i = f ∧ A 29 i = -1 ∧ i ≠ m
    · exfalso
      rcases h with h | h
      · exact e.2.2.2 (e.2.1.trans h)
      · apply h
        rw [← e.2.1, kSu.o (fun y => z ⟨e.1, y.2⟩)]
        exact e.2.2.1
    · rw [kSu.o (fun y => by
        rcases y.2.1 with u | u
        · exact z ⟨y.1, u, y.2.2⟩
        · exact e ⟨y.1, u, y.2.2⟩)]
/-- an inner call of p other than c, from below K, that FAILED so -/
def kFb (S : xm_S) (p c K i : Nat) : Prop := ∃ e, e < K ∧ e < xm_n S 1 6 ∧ xm_r S 2 e 2 = some p ∧ e ≠ c ∧ xm_r S 2 e 11 = some i
theorem k_80 {S : xm_S} {A : y_A} {X E B : Nat → Prop} {hb rb nb t w e1 e2 p c m : Nat} {l3 : Int32} (hM : kM S A X E B hb rb nb t w e1 e2) (hp : p < xm_n S 1 6) (hc : c < xm_n S 1 6) (hm : xm_r S 2 c 11 = some m) (hm2 : A 69 c = 2 ∧ A 70 c = nI m ∧ m < xm_n S 1 8) : ∀ (r k n : Nat), k + r = xm_n S 1 6 → r < n → rg_retryTold_80 n (nI p) (nI c) l3 (nI k) (kSu A (kFb S p c k) m) ∧ (rf_retryTold_80 n (nI p) (nI c) l3 (nI k) (kSu A (kFb S p c k) m)).2 = kSu A (kFb S p c (xm_n S 1 6)) m := by
  obtain ⟨⟨hC, hcnt, hb', hl, ht, hv, h1, h2, h3, h4, -⟩, hS, hgr, hI⟩ := hM
  have hbb := hb'
  unfold k_bnd at hbb
  have hN := hcnt.2.2.2.2.2.2.1
  have ixc : y_ix (nI c) = c := y_ix_nI (by omega)
  have yc : y_in (nI c) 4400 := y_in_nI (by omega) (by decide)
  have o : ∀ P x i, x ≠ 29 → kSu A P m x i = A x i := fun P x i z => kSu.o (fun y => z y.1)
  intro r
  induction r with
  | zero =>
    intro k n hk hn
    obtain ⟨n, rfl⟩ : ∃ j, n = j + 1 := ⟨n - 1, by omega⟩
    have cc : nI (xm_n S 1 6) ≤ nI k := nI_le (by omega) (by omega)
    unfold rg_retryTold_80 rf_retryTold_80
    rw [o _ 61 0 (by decide), hN, if_pos cc]
    refine ⟨⟨fun _ => trivial, fun z => absurd cc z⟩, ?_⟩
    rw [show xm_n S 1 6 = k by omega]
  | succ r ih =>
    intro k n hk hn
    obtain ⟨n, rfl⟩ : ∃ j, n = j + 1 := ⟨n - 1, by omega⟩
    have hkn : k < xm_n S 1 6 := by omega
    have cc : ¬ nI (xm_n S 1 6) ≤ nI k := nI_ge hkn (by omega)
    have ixk : y_ix (nI k) = k := y_ix_nI (by omega)
    have yk : y_in (nI k) 4400 := y_in_nI (by omega) (by decide)
    have hkc := h2 k hkn
    have h64 := hkc.2.2.2.2.2.2.2.2.2.2.1
    obtain ⟨i1, i2⟩ := ih (k + 1) n (by omega) (by omega)
    have skip : (∀ i, kFb S p c (k + 1) i ↔ kFb S p c k i) → kSu A (kFb S p c (k + 1)) m = kSu A (kFb S p c k) m := fun z => kSu.c z
    have step : ∀ i, kFb S p c (k + 1) i ↔ (kFb S p c k i ∨ (xm_r S 2 k 2 = some p ∧ k ≠ c ∧ xm_r S 2 k 11 = some i)) := fun i => by
      constructor
      · rintro ⟨e, e1, e2, e3, e4, e5⟩
        by_cases ek : e = k
        · rw [ek] at e3 e4 e5; exact Or.inr ⟨e3, e4, e5⟩
        · exact Or.inl ⟨e, by omega, e2, e3, e4, e5⟩
      · rintro (⟨e, e1, e2, e3, e4, e5⟩ | ⟨e3, e4, e5⟩)
        · exact ⟨e, by omega, e2, e3, e4, e5⟩
        · exact ⟨k, by omega, hkn, e3, e4, e5⟩
    have no : (¬ (xm_r S 2 k 2 = some p ∧ k ≠ c ∧ ∃ i, xm_r S 2 k 11 = some i)) → rg_retryTold_80 n (nI p) (nI c) l3 (nI k + 1) (kSu A (kFb S p c k) m) ∧ (rf_retryTold_80 n (nI p) (nI c) l3 (nI k + 1) (kSu A (kFb S p c k) m)).2 = kSu A (kFb S p c (xm_n S 1 6)) m := fun z => by
      rw [nI_1 k, ← skip (fun i => (step i).trans ⟨fun y => y.resolve_right (fun u => z ⟨u.1, u.2.1, i, u.2.2⟩), Or.inl⟩)]
      exact ⟨i1, i2⟩
    unfold rg_retryTold_80 rf_retryTold_80
    rw [ixc, ixk, o _ 61 0 (by decide), hN, if_neg cc, o _ 69 c (by decide), if_pos hm2.1, o _ 64 k (by decide), h64, o _ 69 k (by decide), o _ 70 k (by decide), o _ 70 c (by decide), hm2.2.1]
    have par : (kn (xm_r S 2 k 2) = nI p) ↔ xm_r S 2 k 2 = some p := by
      rcases hx : xm_r S 2 k 2 with _ | q
      · exact ⟨fun z => absurd (show (0 : Int32) ≤ nI p from nI_pos' (by omega)) (by rw [← z]; decide), fun z => by cases z⟩
      · have hq := hkc.2.2.2.2.2.2.2.2.2.2.2.2.2.2.2.2.2.2.2.2.2.2.2.2.2.1 q hx
        exact ⟨fun z => by rw [(nI_eq (a := q) (b := p) (by omega) (by omega)).mp z], fun z => by rw [Option.some.inj z]; rfl⟩
    by_cases c1 : kn (xm_r S 2 k 2) = nI p
    · have hkp := par.mp c1
      by_cases c2 : nI k = nI c
      · have ekc : k = c := (nI_eq (by omega) (by omega)).mp c2
        obtain ⟨n1, n2⟩ := no (fun z => z.2.1 ekc)
        rw [if_pos c1, if_pos c2]
        exact ⟨⟨fun z => absurd z cc, fun _ => ⟨yc, fun _ => ⟨yk, fun _ => ⟨fun _ => n1, fun z => absurd c2 z⟩, fun z => absurd c1 z⟩, fun z => absurd hm2.1 z⟩⟩, n2⟩
      · have ekc : k ≠ c := fun z => c2 (by rw [z])
        rw [if_pos c1, if_neg c2]
        by_cases c3 : A 69 k = 2
        · have h82 : xm_i S 2 k 8 = 2 := by rw [hkc.2.2.2.2.1]; exact c3
          obtain ⟨f, hf⟩ := ((hI.2.2.2.2.2.2.2.2.2.2.2.1).2.2.choose_spec.2.2.2 k hkn).2.1 h82
          have hfn := hkc.2.2.2.2.2.2.2.2.2.2.2.2.2.2.2.2.2.2.2.2.2.2.2.2.2.2.2 f hf
          have h11 := hkc.2.2.2.2.2.2.2.2.2.2.2.2.2.2.2.1
          rw [hf, c3, if_pos rfl] at h11
          have h70 : A 70 k = nI f := h11.symm
          have ixf : y_ix (nI f) = f := y_ix_nI (by omega)
          have yf : y_in (nI f) 4400 := y_in_nI (by omega) (by decide)
          have eP : ∀ i, (kFb S p c k i ∨ i = f) ↔ kFb S p c (k + 1) i := fun i => by
            rw [step i]
            exact or_congr_right ⟨fun z => ⟨hkp, ekc, by rw [z]; exact hf⟩, fun z => Option.some.inj (z.2.2.symm.trans hf)⟩
          rw [if_pos c3, h70, ixf]
          have hkeep : (f = m ∨ kSu A (kFb S p c k) m 29 f ≠ -1) → rg_retryTold_80 n (nI p) (nI c) l3 (nI k + 1) (kSu A (kFb S p c k) m) ∧ (rf_retryTold_80 n (nI p) (nI c) l3 (nI k + 1) (kSu A (kFb S p c k) m)).2 = kSu A (kFb S p c (xm_n S 1 6)) m := fun z => by
            rw [nI_1 k, kSu.n z (by omega), kSu.c eP]
            exact ⟨i1, i2⟩
          by_cases c4 : nI f = nI m
          · have efm : f = m := (nI_eq (by omega) (by omega)).mp c4
            obtain ⟨n1, n2⟩ := hkeep (Or.inl efm)
            rw [if_pos c4]
            exact ⟨⟨fun z => absurd z cc, fun _ => ⟨yc, fun _ => ⟨yk, fun _ => ⟨fun z => absurd z c2, fun _ => ⟨fun _ => ⟨fun _ => n1, fun z => absurd c4 z⟩, fun z => absurd c3 z⟩⟩, fun z => absurd c1 z⟩, fun z => absurd hm2.1 z⟩⟩, n2⟩
          · have efm : f ≠ m := fun z => c4 (by rw [z])
            rw [if_neg c4]
            by_cases c5 : kSu A (kFb S p c k) m 29 f = -1
            · rw [if_pos c5, kSu.s efm c5 (by omega), kSu.c eP, nI_1 k]
              exact ⟨⟨fun z => absurd z cc, fun _ => ⟨yc, fun _ => ⟨yk, fun _ => ⟨fun z => absurd z c2, fun _ => ⟨fun _ => ⟨fun z => absurd z c4, fun _ => ⟨yf, fun _ => i1, fun z => absurd c5 z⟩⟩, fun z => absurd c3 z⟩⟩, fun z => absurd c1 z⟩, fun z => absurd hm2.1 z⟩⟩, i2⟩
            · obtain ⟨n1, n2⟩ := hkeep (Or.inr c5)
              rw [if_neg c5]
              exact ⟨⟨fun z => absurd z cc, fun _ => ⟨yc, fun _ => ⟨yk, fun _ => ⟨fun z => absurd z c2, fun _ => ⟨fun _ => ⟨fun z => absurd z c4, fun _ => ⟨yf, fun z => absurd z c5, fun _ => n1⟩⟩, fun z => absurd c3 z⟩⟩, fun z => absurd c1 z⟩, fun z => absurd hm2.1 z⟩⟩, n2⟩
        · have hno : ∀ i, xm_r S 2 k 11 ≠ some i := fun i z => by
            have h11 := hkc.2.2.2.2.2.2.2.2.2.2.2.2.2.2.2.1
            have hin := hkc.2.2.2.2.2.2.2.2.2.2.2.2.2.2.2.2.2.2.2.2.2.2.2.2.2.2.2 i z
            rw [z, if_neg c3] at h11
            exact absurd (show (0 : Int32) ≤ nI i from nI_pos' (by omega)) (by rw [show nI i = -1 from h11]; decide)
          obtain ⟨n1, n2⟩ := no (fun z => hno _ z.2.2.choose_spec)
          rw [if_neg c3]
          exact ⟨⟨fun z => absurd z cc, fun _ => ⟨yc, fun _ => ⟨yk, fun _ => ⟨fun z => absurd z c2, fun _ => ⟨fun z => absurd z c3, fun _ => n1⟩⟩, fun z => absurd c1 z⟩, fun z => absurd hm2.1 z⟩⟩, n2⟩
    · obtain ⟨n1, n2⟩ := no (fun z => c1 (par.mpr z.1))
      rw [if_neg c1]
      exact ⟨⟨fun z => absurd z cc, fun _ => ⟨yc, fun _ => ⟨yk, fun z => absurd z c1, fun _ => n1⟩, fun z => absurd hm2.1 z⟩⟩, n2⟩
theorem k_80n {A : y_A} {p c N : Nat} {l3 : Int32} (hN : A 61 0 = nI N) (hc : c < N) (hb : N ≤ 4400) (h : ¬ A 69 c = 2) : rg_retryTold_80 20000 (nI p) (nI c) l3 0 A ∧ (rf_retryTold_80 20000 (nI p) (nI c) l3 0 A).2 = A := by
  have cc : ¬ nI N ≤ (0 : Int32) := nI_ge (a := 0) (by omega) (by omega)
  have ixc : y_ix (nI c) = c := y_ix_nI (by omega)
  unfold rg_retryTold_80 rf_retryTold_80
  rw [hN, if_neg cc, ixc, if_neg h]
  exact ⟨⟨fun z => absurd z cc, fun _ => ⟨y_in_nI (by omega) (by decide), fun z => absurd z h, fun _ => trivial⟩⟩, rfl⟩
/-- what has been seen: behind l4 -/
def kFa (S : xm_S) (p c : Nat) (l4 : Option Nat) (i : Nat) : Prop := ∃ e, e < xm_n S 1 6 ∧ xm_r S 2 e 2 = some p ∧ e ≠ c ∧ (∀ x, l4 = some x → x < e) ∧ xm_r S 2 e 11 = some i
theorem c_69 {Nm : Prop} {D e : Nat} (IH : kEN Nm D e) {S : xm_S} {A : y_A} {X E : Nat → Prop} {hb rb nb t w p c o g m : Nat} {rest : List y_J} (hM0 : kM S A X E (fun _ => False) hb rb nb t w 0 0) (hT : kTp Nm S A p c e o) (hX : kXd S X) (hD : kDl S A E) (h75 : ¬ A 75 p = 1) (hg : xm_r S 2 p 4 = some g) (hs : A 31 g = 4) (hnch : ∀ k, k < xm_n S 1 6 → xm_r S 2 k 2 = some p → xm_i S 2 k 8 ≠ 0) (hlt : ∀ k, k < xm_n S 1 6 → xm_r S 2 k 2 = some p → k ≤ c) (hlen : rest.length + 10 * e + 110 + kC Nm ≤ 20000) (hm : xm_r S 2 c 11 = some m) (hm2 : A 69 c = 2 ∧ A 70 c = nI m ∧ m < xm_n S 1 8) :
    ∀ (N : Nat) (l4 : Option Nat) (Si : xm_S), (∀ x, l4 = some x → x < N ∧ x < xm_n S 1 6 ∧ xm_r S 2 x 2 = some p ∧ x ≠ c) → kM Si (kSu A (kFa S p c l4) m) X E (fun _ => False) hb rb nb t w 0 0 → kF 0 0 [] [(4, 6)] [29] S Si A (kSu A (kFa S p c l4) m) →
      xw (D + 2) 31 69 [some (.inr (some (0, 0))), some (.inr (some (5, g))), some (.inr (some (2, p))), some (.inr (some (2, c))), some (.inr (xo 2 l4))] [] Si (kPo S A (kSu A (kFa S p c none) m) (((1 : Int32), nI p, A 69 c, A 70 c, if A 71 c = 0 then (0 : Int32) else 1) :: rest) rest X E hb rb nb t w) := by
  obtain ⟨t1, t2, t3, t4, t5, t6, t7, t8, t9⟩ := hT
  have j6 := hM0.2.2.2.2.2.2.2.2.1
  have hbd := hM0.1.2.2.1
  unfold k_bnd at hbd
  intro N
  induction N with
  | zero =>
    intro l4 Si hl hM hF
    rcases l4 with _ | x
    case some => exact absurd (hl x rfl).1 (by omega)
    have hR : ∀ j k, xm_r Si 2 k j = xm_r S 2 k j := fun j k => hF.2.2.2.1 2 j (by simp) k
    have hI : ∀ j k, xm_i Si 2 k j = xm_i S 2 k j := fun j k => hF.2.2.1 2 j (by simp) k
    have hL := hF.L hM0 (by decide) (by decide) (by decide)
    have a : ∀ x, x ≠ 29 → ∀ k, kSu A (kFa S p c none) m x k = A x k := fun x z k => kSu.o (fun y => z y.1)
    have n6 : xm_n Si 1 6 = xm_n S 1 6 := by rw [hF.1]
    refine cw_tellRetry_69 hM.1.1 (fun u1 e1 => ⟨fun z => ?_, fun k3 h3 => ⟨fun _ => ?_, fun k9 z => by cases z⟩⟩)
    · rw [hR, hm] at e1; rw [← e1] at z; cases z
    · have hk3 : k3 = m := by rw [hR, hm] at e1; rw [← e1] at h3; exact (Option.some.inj h3).symm
      have hM2 := hM.exm (p := p) (by omega) (fun k hk hkp => by rw [hI]; rw [hR] at hkp; exact hnch k (by omega) hkp) (fun g' hg' => by
        rw [a 31 (by decide), ← Option.some.inj (hg.symm.trans ((hR 4 p).symm.trans hg')), hs]; decide)
      have al := c_al IH (S := Si) (A := kSu A (kFa S p c none) m) hM.later hM2 ⟨by omega, by omega, (hR _ _).trans t3, (hI _ _).trans t4, by rw [a 69 (by decide)]; exact t5, by rw [a 68 (by decide), a 0 (by decide)]; exact t6, (hI _ _).trans t7, (hR _ _).trans t8, t9.L hL⟩ (hX.L hL) (hD.L hL hM0.gb) (by rw [a 75 (by decide)]; exact h75) hlen rfl rfl rfl rfl
      rw [a 69 (by decide), a 70 (by decide), a 71 (by decide)] at al
      have up : ∀ (r : Option xm_V) (S' : xm_S), (r = none ∧ xk_C S' ∧ kPo Si (kSu A (kFa S p c none) m) (kSu A (kFa S p c none) m) (((1 : Int32), nI p, A 69 c, A 70 c, if A 71 c = 0 then (0 : Int32) else 1) :: rest) rest X E hb rb nb t w none S') → r = none ∧ xk_C S' ∧ kPo S A (kSu A (kFa S p c none) m) (((1 : Int32), nI p, A 69 c, A 70 c, if A 71 c = 0 then (0 : Int32) else 1) :: rest) rest X E hb rb nb t w none S' := fun r S' z => by
        obtain ⟨z1, z2, z3, z4, A', z5, z6, z7⟩ := z
        exact ⟨z1, z2, z3, z4, A', z5, z6, hL.tr z7⟩
      refine ⟨fun z => xc.mono (al.1 z) up, fun z => ?_⟩
      have := al.2 z (some m) ((hR _ _).trans hm)
      rw [hk3]
      exact xc.mono this up
  | succ N ih =>
    intro l4 Si hl hM hF
    rcases l4 with _ | k9
    · exact ih none Si (fun x z => by cases z) hM hF
    obtain ⟨l1, l2, l3, l4'⟩ := hl k9 rfl
    have hR : ∀ j k, xm_r Si 2 k j = xm_r S 2 k j := fun j k => hF.2.2.2.1 2 j (by simp) k
    obtain ⟨ch1, ch2⟩ := j6.2 k9 p l2 l3
    have hnx : ∀ x, xm_r S 2 k9 18 = some x → x < N ∧ x < xm_n S 1 6 ∧ xm_r S 2 x 2 = some p ∧ x ≠ c := fun x hx => by
      obtain ⟨b1, b2, b3⟩ := ch2 x hx
      refine ⟨by omega, by omega, b2, fun z => ?_⟩
      have := hlt k9 l2 l3
      omega
    have adv : ∀ i, (kFa S p c (some k9) i ∨ xm_r S 2 k9 11 = some i) ↔ kFa S p c (xm_r S 2 k9 18) i := fun i => by
      constructor
      · rintro (⟨e, e1, e2, e3, e4, e5⟩ | z)
        · refine ⟨e, e1, e2, e3, fun x hx => ?_, e5⟩
          have := (ch2 x hx).1
          have := e4 k9 rfl
          omega
        · exact ⟨k9, l2, l3, l4', fun x hx => (ch2 x hx).1, z⟩
      · rintro ⟨e, e1, e2, e3, e4, e5⟩
        by_cases ek : e = k9
        · rw [ek] at e5; exact Or.inr e5
        · refine Or.inl ⟨e, e1, e2, e3, fun x hx => ?_, e5⟩
          rw [← Option.some.inj hx]
          rcases Nat.lt_or_gt_of_ne ek with h | h
          · rcases hb18 : xm_r S 2 k9 18 with _ | b
            · have := ch1 hb18 e e1 e2; omega
            · have := (ch2 b hb18).2.2 e e1 e2 h
              have := e4 b hb18
              omega
          · exact h
    have go : ∀ S2, kM S2 (kSu A (kFa S p c (xm_r S 2 k9 18)) m) X E (fun _ => False) hb rb nb t w 0 0 → kF 0 0 [] [(4, 6)] [29] S S2 A (kSu A (kFa S p c (xm_r S 2 k9 18)) m) → ∀ u, xm_r Si 2 k9 18 = u → xw (D + 2) 31 69 [some (.inr (some (0, 0))), some (.inr (some (5, g))), some (.inr (some (2, p))), some (.inr (some (2, c))), some (.inr (xo 2 u))] [] S2 (kPo S A (kSu A (kFa S p c none) m) (((1 : Int32), nI p, A 69 c, A 70 c, if A 71 c = 0 then (0 : Int32) else 1) :: rest) rest X E hb rb nb t w) := fun S2 q1 q2 u hu => by
      rw [hR] at hu
      rw [← hu]
      exact ih _ S2 hnx q1 q2
    refine cw_tellRetry_69 hM.1.1 (fun u1 e1 => ⟨fun z => ?_, fun k3 h3 => ⟨fun z => (by cases z), fun k9' hk9 u15 e15 => ⟨fun h15 u18 e18 => ?_, fun k17 h17 => ⟨fun hkk u21 e21 => ?_, fun hkk u23 e23 => ⟨fun h23 S26 e26 u28 e28 => ?_, fun k25 h25 u30 e30 => ?_⟩⟩⟩⟩⟩)
    · rw [hR, hm] at e1; rw [← e1] at z; cases z
    · obtain rfl := Option.some.inj hk9
      have h11 : xm_r S 2 k9 11 = none := (hR _ _).symm.trans (e15.trans h15)
      have eP : kSu A (kFa S p c (some k9)) m = kSu A (kFa S p c (xm_r S 2 k9 18)) m := kSu.c (fun i => (⟨Or.inl, fun z => z.resolve_right (fun y => by rw [h11] at y; cases y)⟩ : _ ↔ _).trans (adv i))
      rw [eP] at hM hF
      exact go Si hM hF u18 e18
    · obtain rfl := Option.some.inj hk9
      have hk3 : k3 = m := by rw [hR, hm] at e1; rw [← e1] at h3; exact (Option.some.inj h3).symm
      have h11 : xm_r S 2 k9 11 = some k17 := (hR _ _).symm.trans (e15.trans h17)
      have eP : kSu A (kFa S p c (some k9)) m = kSu A (kFa S p c (xm_r S 2 k9 18)) m := (kSu.n (f := k17) (Or.inl (hkk.trans hk3)) (by omega)).trans (kSu.c (fun i => (or_congr_right ⟨fun z => by rw [z]; exact h11, fun z => Option.some.inj (z.symm.trans h11)⟩).trans (adv i)))
      rw [eP] at hM hF
      exact go Si hM hF u21 e21
    · obtain rfl := Option.some.inj hk9
      have hk3 : k3 = m := by rw [hR, hm] at e1; rw [← e1] at h3; exact (Option.some.inj h3).symm
      have h11 : xm_r S 2 k9 11 = some k17 := (hR _ _).symm.trans (e15.trans h17)
      have hfn : k17 < xm_n S 1 8 := (hM0.1.2.2.2.2.2.2.2.1 k9 l2).2.2.2.2.2.2.2.2.2.2.2.2.2.2.2.2.2.2.2.2.2.2.2.2.2.2.2 k17 h11
      have n8 : xm_n Si 1 8 = xm_n S 1 8 := by rw [hF.1]
      have h29 : kSu A (kFa S p c (some k9)) m 29 k17 = -1 := by
        have := (hM.1.2.2.2.2.2.2.2.2.2.1 k17 (by omega)).2.2.2.2.2.2.1
        rw [e23, h23] at this
        exact this
      have eP : xm_u2 (kSu A (kFa S p c (some k9)) m) 29 k17 (nI m) = kSu A (kFa S p c (xm_r S 2 k9 18)) m := (kSu.s (fun z => hkk (by rw [z, hk3])) h29 (by omega)).trans (kSu.c (fun i => (or_congr_right ⟨fun z => by rw [z]; exact h11, fun z => Option.some.inj (z.symm.trans h11)⟩).trans (adv i)))
      have q1 := hM.under (f := k17) (m := m) (by omega) (by omega)
      have q2 := ((hF.sr 4 k17 6 (some m) (fun z => absurd z (by decide)) (fun z => absurd z (by decide))).u 29 k17 (nI m) (fun z => absurd z.1 (by decide)) (fun z => absurd z.1 (by decide))).w (I' := []) (R' := [(4, 6)]) (Z' := [29]) (by decide) (by decide) (by decide)
      rw [eP] at q1 q2
      rw [hk3] at e26
      subst e26
      exact go _ q1 q2 u28 e28
    · obtain rfl := Option.some.inj hk9
      have h11 : xm_r S 2 k9 11 = some k17 := (hR _ _).symm.trans (e15.trans h17)
      have hfn : k17 < xm_n S 1 8 := (hM0.1.2.2.2.2.2.2.2.1 k9 l2).2.2.2.2.2.2.2.2.2.2.2.2.2.2.2.2.2.2.2.2.2.2.2.2.2.2.2 k17 h11
      have n8 : xm_n Si 1 8 = xm_n S 1 8 := by rw [hF.1]
      have hkf := hM.1.2.2.2.2.2.2.2.2.2.1 k17 (by omega)
      have h29 : kSu A (kFa S p c (some k9)) m 29 k17 ≠ -1 := by
        have z := hkf.2.2.2.2.2.2.1
        have hb25 := hkf.2.2.2.2.2.2.2.2.2.2.1 k25 (e23.trans h25)
        rw [e23, h25] at z
        rw [z]
        exact fun y => absurd (show (0 : Int32) ≤ nI k25 from nI_pos' (by omega)) (by rw [show nI k25 = -1 from y]; decide)
      have eP : kSu A (kFa S p c (some k9)) m = kSu A (kFa S p c (xm_r S 2 k9 18)) m := (kSu.n (f := k17) (Or.inr h29) (by omega)).trans (kSu.c (fun i => (or_congr_right ⟨fun z => by rw [z]; exact h11, fun z => Option.some.inj (z.symm.trans h11)⟩).trans (adv i)))
      rw [eP] at hM hF
      exact go Si hM hF u30 e30
theorem k_shl : ∀ j : Fin 51, ∀ n : Fin 6, 1 ≤ j.val → 1 ≤ n.val → ((nI j.val) <<< ((nI n.val - 1) &&& 31) : Int32) ≠ 0 := by decide +kernel
theorem k_ne0 {a x : Int32} (h : x ≠ 0) : a + x ≠ a := fun z => h ((Int32.add_left_inj a).mp (by rw [Int32.add_comm, z, Int32.zero_add]))
theorem kTN.s4 {Nm : Prop} {D e : Nat} (IH : kEN Nm D e) : kTN Nm (D + 3) e 4 := by
  intro S A X E hb rb nb t w p c o g rest hM hT hX hD hEp hg hs hon hch hlat hlen
  have hTT := hT
  obtain ⟨t1, t2, t3, t4, t5, t6, t7, t8, t9⟩ := hT
  have hbd := hM.1.2.2.1
  unfold k_bnd at hbd
  have hgn := hM.gb p g t2 hg
  have hG : A 65 p = nI g := by
    have := (hM.1.2.2.2.2.2.2.2.1 p t2).2.2.2.2.2.2.2.2.2.2.2.1
    rw [hg] at this
    exact this
  have s1 : xm_i S 5 g 1 = 4 := ((hM.1.2.2.2.2.2.2.2.2.1 g hgn).2.1).trans hs
  have hEq : (fun k => E k ∨ (k = p ∧ A 31 g = 3)) = E := by
    funext k
    exact propext ⟨fun z => z.resolve_right (fun y => absurd (hs.symm.trans y.2) (by decide)), Or.inl⟩
  rw [hEq] at hM
  have h75 : ¬ A 75 p = 1 := fun z => by
    obtain ⟨g', y1, y2⟩ := (hM.2.2.2.2.2.2.2.2.2.1 p t2).2.1 (Or.inl z)
    rw [← Option.some.inj (hg.symm.trans y1), hs] at y2
    exact absurd y2 (by decide)
  have hnch : ∀ k, k < xm_n S 1 6 → xm_r S 2 k 2 = some p → xm_i S 2 k 8 ≠ 0 := fun k hk hkp h0 => absurd (hs.symm.trans (hch k hk hkp h0)) (by decide)
  have h8c : ∀ {q : Prop}, ¬ A 69 c = 2 → ¬ xm_i S 2 c 8 = 1 → q := fun z1 z2 => by
    rw [(hM.1.2.2.2.2.2.2.2.1 c t1).2.2.2.2.1] at z2
    exact absurd (t5.resolve_left z2) z1
  have hl := hlat (by rw [hs]; decide)
  obtain ⟨nm1, nm2, nm3⟩ := k_named hM t1 hgn
  have j6 := hM.2.2.2.2.2.2.2.2.1
  obtain ⟨m1, m2, n, n1, n2, n3, n4⟩ := j6.1 p t2
  obtain ⟨la1, la2, la3⟩ := m2 c hl
  have hn1 : 1 ≤ n := Nat.one_le_iff_ne_zero.mpr (fun z => by have := n3.mp z; rw [hl] at this; cases this)
  have hpc := hM.1.2.2.2.2.2.2.2.1 p t2
  have hkg := hM.1.2.2.2.2.2.2.2.2.1 g hgn
  have h73 : xm_i S 2 p 16 = A 73 p := hpc.2.2.2.2.2.2.2.2.1
  have h73n : A 73 p = nI n := h73.symm.trans n2
  have g2 := hkg.2.2.1
  have g3 := hkg.2.2.2.1
  have g4 := hkg.2.2.2.2.1
  have ht := hM.1.2.2.2.2.1.1
  have hN61 := hM.1.2.1.2.2.2.2.2.2.1
  have hgr4 := (hM.2.2.1 g hgn).2.2.2.2.2.2.2.2.1 hs
  have ixp : y_ix (nI p) = p := y_ix_nI (by omega)
  have ixg : y_ix (nI g) = g := y_ix_nI (by omega)
  have ixc : y_ix (nI c) = c := y_ix_nI (by omega)
  obtain ⟨r1, r2⟩ := k_told_4 (A := A) (c := c) (js := rest) (by omega) (by omega) (by omega) hG hs
  have al : ∀ A, rg_alike (nI p) (nI c) A rest := fun A => k_alike (by omega) (by omega)
  -- the loop, in both
  have L : ∃ AR, rg_retryTold_80 20000 (nI p) (nI c) (nI g) 0 A ∧ (rf_retryTold_80 20000 (nI p) (nI c) (nI g) 0 A).2 = AR ∧ (AR 69 c = A 69 c ∧ AR 70 c = A 70 c ∧ AR 71 c = A 71 c) ∧ ∀ u, xm_r S 2 c 18 = u → xw (D + 2) 31 69 [some (.inr (some (0, 0))), some (.inr (some (5, g))), some (.inr (some (2, p))), some (.inr (some (2, c))), some (.inr (xo 2 u))] [] S (kPo S A AR (((1 : Int32), nI p, A 69 c, A 70 c, if A 71 c = 0 then (0 : Int32) else 1) :: rest) rest X E hb rb nb t w) := by
    rcases h11 : xm_r S 2 c 11 with _ | m
    · obtain ⟨hN, h692⟩ := nm2 h11
      obtain ⟨q1, q2⟩ := k_80n (p := p) (l3 := nI g) hN61 t1 (by omega) h692
      refine ⟨A, q1, q2, ⟨rfl, rfl, rfl⟩, fun u hu => ?_⟩
      have hM2 := hM.exm t2 hnch (fun g' hg' => by rw [← Option.some.inj (hg.symm.trans hg'), hs]; decide)
      have al2 := c_al IH hM.later hM2 hTT hX hD h75 (show rest.length + 10 * e + 110 + kC Nm ≤ 20000 by omega) rfl rfl rfl rfl
      refine xw.mono (Q := fun r S' => r = none ∧ xk_C S' ∧ kPo S A A (((1 : Int32), nI p, A 69 c, A 70 c, if A 71 c = 0 then (0 : Int32) else 1) :: rest) rest X E hb rb nb t w none S') ?_ (fun r S' z => ⟨z.1, z.2.2.2⟩)
      refine cw_tellRetry_69 (d := D) hM.1.1 (fun u1 e1 => ⟨fun z => ?_, fun k3 h3 => ?_⟩)
      · have up : ∀ (r : Option xm_V) (S' : xm_S), (r = none ∧ xk_C S' ∧ kPo S A A (((1 : Int32), nI p, A 69 c, A 70 c, if A 71 c = 0 then (0 : Int32) else 1) :: rest) rest X E hb rb nb t w none S') → r = none ∧ xk_C S' ∧ ((none : Option xm_V) = none ∧ xk_C S' ∧ kPo S A A (((1 : Int32), nI p, A 69 c, A 70 c, if A 71 c = 0 then (0 : Int32) else 1) :: rest) rest X E hb rb nb t w none S') := fun r S' z => ⟨z.1, z.2.1, rfl, z.2⟩
        exact ⟨fun y => xc.mono (al2.1 y) up, fun y => xc.mono (al2.2 y none h11) up⟩
      · rw [h11, h3] at e1; cases e1
    · obtain ⟨hm2, kx⟩ := nm3 m h11
      have z0 : kSu A (kFb S p c 0) m = A := kSu.z (fun i z => by obtain ⟨e, e1, -⟩ := z; omega)
      obtain ⟨q1, q2⟩ := k_80 (l3 := nI g) hM t2 t1 h11 hm2 (xm_n S 1 6) 0 20000 (by omega) (by omega)
      rw [z0, show nI 0 = (0 : Int32) from rfl] at q1 q2
      have eP : kSu A (kFb S p c (xm_n S 1 6)) m = kSu A (kFa S p c none) m := kSu.c (fun i => ⟨fun z => by
        obtain ⟨e, e1, e2, e3, e4, e5⟩ := z
        exact ⟨e, e2, e3, e4, fun x hx => (by cases hx), e5⟩, fun z => by
        obtain ⟨e, e2, e3, e4, -, e5⟩ := z
        exact ⟨e, e2, e2, e3, e4, e5⟩⟩)
      have zS : kSu A (kFa S p c (xm_r S 2 c 18)) m = A := kSu.z (fun i z => by
        obtain ⟨e, e2, e3, e4, e6, e5⟩ := z
        have h1 := la3 e e2 e3
        rcases hb18 : xm_r S 2 c 18 with _ | b
        · have := (j6.2 c p t1 t3).1 hb18 e e2 e3; omega
        · have := ((j6.2 c p t1 t3).2 b hb18).2.2 e e2 e3 (by omega)
          have := e6 b hb18
          omega)
      have o : ∀ x i, x ≠ 29 → kSu A (kFa S p c none) m x i = A x i := fun x i z => kSu.o (fun y => z y.1)
      refine ⟨kSu A (kFa S p c none) m, q1, q2.trans eP, ⟨o _ _ (by decide), o _ _ (by decide), o _ _ (by decide)⟩, fun u hu => ?_⟩
      rw [← hu]
      refine c_69 IH hM hTT hX hD h75 hg hs hnch la3 (by omega) h11 hm2 (xm_n S 1 6) _ S (fun x hx => ?_) (by rw [zS]; exact hM) (by rw [zS]; exact (kF.rf 0 0 S A).w (by decide) (by decide) (by decide))
      obtain ⟨b1, b2, b3⟩ := (j6.2 c p t1 t3).2 x hx
      exact ⟨by omega, by omega, b2, by omega⟩
  obtain ⟨AR, L1, L2, ⟨L3, L4, L5⟩, L6⟩ := L
  have gR : rg_retryTold (nI p) (nI c) (nI g) A rest := by
    unfold rg_retryTold
    rw [ixp, ixg]
    exact ⟨nm1, fun _ => ⟨L1, al _, trivial⟩, fun _ => ⟨y_in_nI (by omega) (by decide), y_in_nI (by omega) (by decide), fun _ => ⟨L1, al _, trivial⟩, fun _ => ⟨fun _ => trivial, fun _ => trivial⟩⟩⟩
  have eR : rf_retryTold (nI p) (nI c) (nI g) A rest = (if rf_isNamed (nI c) (nI g) A = 0 then (AR, ((1 : Int32), nI p, A 69 c, A 70 c, if A 71 c = 0 then (0 : Int32) else 1) :: rest) else (if A 32 g ≤ A 73 p then (AR, ((1 : Int32), nI p, A 69 c, A 70 c, if A 71 c = 0 then (0 : Int32) else 1) :: rest) else (if A 34 g = 1 then (xm_u2 (xm_u2 A 76 p 1) 72 p (A 0 0 + (A 33 g <<< ((A 73 p - 1) &&& 31))), rest) else (xm_u2 (xm_u2 A 76 p 1) 72 p (A 0 0 + A 33 g), rest)))) := by
    unfold rf_retryTold
    rw [ixp, ixg, ixc, L2, L3, L4, L5]
  rw [eR] at r1
  generalize hnmE : rf_isNamed (nI c) (nI g) A = NM at nm2 nm3 r1
  refine ⟨_, _, r1, r2 gR, cw_tell (d := D + 1) hM.1.1 (fun t1' e1 => ⟨fun z => ?_, fun g' z => ?_⟩)⟩
  · rw [hg, z] at e1; cases e1
  · rw [hg, z] at e1
    obtain rfl := Option.some.inj e1
    refine ⟨fun _ => ⟨fun z => absurd (s1.symm.trans z) (by decide), fun _ => ⟨fun z => absurd (s1.symm.trans z) (by decide), fun _ => ⟨fun z => absurd (s1.symm.trans z) (by decide), fun _ => ⟨fun z => absurd (s1.symm.trans z) (by decide), fun _ => ⟨fun _ => ?_, fun z => absurd s1 z⟩⟩⟩⟩⟩, fun z => absurd t4 z⟩
    refine xc.mono (Q := kPo S A (if NM = 0 then (AR, ((1 : Int32), nI p, A 69 c, A 70 c, if A 71 c = 0 then (0 : Int32) else 1) :: rest) else (if A 32 g ≤ A 73 p then (AR, ((1 : Int32), nI p, A 69 c, A 70 c, if A 71 c = 0 then (0 : Int32) else 1) :: rest) else (if A 34 g = 1 then (xm_u2 (xm_u2 A 76 p 1) 72 p (A 0 0 + (A 33 g <<< ((A 73 p - 1) &&& 31))), rest) else (xm_u2 (xm_u2 A 76 p 1) 72 p (A 0 0 + A 33 g), rest)))).1 (if NM = 0 then (AR, ((1 : Int32), nI p, A 69 c, A 70 c, if A 71 c = 0 then (0 : Int32) else 1) :: rest) else (if A 32 g ≤ A 73 p then (AR, ((1 : Int32), nI p, A 69 c, A 70 c, if A 71 c = 0 then (0 : Int32) else 1) :: rest) else (if A 34 g = 1 then (xm_u2 (xm_u2 A 76 p 1) 72 p (A 0 0 + (A 33 g <<< ((A 73 p - 1) &&& 31))), rest) else (xm_u2 (xm_u2 A 76 p 1) 72 p (A 0 0 + A 33 g), rest)))).2 rest X E hb rb nb t w) ?_ (fun r S' z => ⟨z.1, z.2.1, rfl, z.2⟩)
    refine cw_tellRetry (d := D) hM.1.1 (fun u1 e1 => ⟨fun hn u4 e4 => ?_, fun f hf => ?_⟩)
    · obtain ⟨hN, -⟩ := nm2 (e1.trans hn)
      rw [if_pos hN]
      exact L6 u4 e4
    · obtain ⟨⟨k1, k2, k3⟩, kx⟩ := nm3 f (e1.trans hf)
      refine kx D _ ⟨NM, rfl, hM.1.1, fun hN u10 e10 => ?_, fun hN => ⟨fun hle u13 e13 => ?_, fun hle S15 e15 => ?_⟩⟩
      · rw [if_pos hN]; exact L6 u10 e10
      · rw [g2, h73] at hle
        rw [if_neg hN, if_pos hle]
        exact L6 u13 e13
      · rw [g2, h73] at hle
        rw [if_neg hN, if_neg hle]
        have hin : A 73 p < A 32 g := Int32.not_le.mp hle
        have hch2 : ∀ k, k < xm_n S 1 6 → xm_r S 2 k 2 = some p → xm_i S 2 k 8 = 2 := fun k hk hkp => by
          by_cases ekc : k = c
          · rw [ekc, (hM.1.2.2.2.2.2.2.2.1 c t1).2.2.2.2.1]; exact k1
          · exact ((hM.2.2.2.2.2.2.2.2.2.2.2.2.1).2 p g t2 t4 hg).2.1 (Or.inl hs) k hk hkp (fun z => ekc (Option.some.inj (z.symm.trans hl)))
        have fin : ∀ (x : Int32) (S18 : xm_S), x ≠ 0 → S18 = xm_si S15 2 p 12 (A 0 0 + x) → kPo S A (xm_u2 (xm_u2 A 76 p 1) 72 p (A 0 0 + x)) rest rest X E hb rb nb t w none S18 := fun x S18 hx e18 => by
          have hF : kF p 0 [(2, 13), (2, 12)] [] [76, 72] S S18 A (xm_u2 (xm_u2 A 76 p 1) 72 p (A 0 0 + x)) := by
            subst e15 e18
            exact (((((kF.rf p 0 S A).si 2 p 13 2 (fun _ => rfl) (fun z => absurd z (by decide))).si 2 p 12 _ (fun _ => rfl) (fun z => absurd z (by decide))).u 76 p 1 (fun _ => rfl) (fun z => absurd z.2 (by decide))).u 72 p _ (fun _ => rfl) (fun z => absurd z.2 (by decide))).w (by decide) (by decide) (by decide)
          have hM2 := hM.pause t2 t4 hg hs hin hch2 hF (by subst e15 e18; exact (xi_si (by decide)).trans xi_same) (by subst e15 e18; rw [xi_same, y_same]) ((y_off (by omega)).trans (y_same _ _ _ _)) (by rw [y_same]; exact k_ne0 hx)
          exact ⟨rfl, hM2.1.1, _, y_to.rf _ _, hM2, hF.L hM (by decide) (by decide) (by decide)⟩
        obtain ⟨b, hb1, hb2⟩ := nI_of (x := A 33 g) (Int32.not_lt.mpr (Int32.le_trans (by decide) hgr4.2.2.1))
        have hbl : 1 ≤ b := Nat.lt_of_not_le (fun z => absurd hgr4.2.2.1 (by rw [hb2]; exact nI_ge (a := b) (b := 1) (by omega) (by decide)))
        have hbh : b ≤ 50 := Nat.le_of_not_lt (fun z => absurd hgr4.2.2.2.1 (by rw [hb2]; exact nI_ge (a := 50) (b := b) z hb1))
        have hn5 : n ≤ 5 := Nat.le_of_not_lt (fun z => absurd (Int32.lt_of_lt_of_le hin hgr4.2.1) (by rw [h73n]; exact nI_nlt (a := n) (b := 6) (by omega) (by omega)))
        refine ⟨fun h34 S18 e18 => ?_, fun h34 S18 e18 => ?_⟩
        · rw [g4] at h34
          rw [ht, g3, h73] at e18
          rw [if_pos h34]
          refine fin _ S18 ?_ e18
          rw [hb2, h73n]
          exact k_shl ⟨b, by omega⟩ ⟨n, by omega⟩ hbl hn1
        · rw [g4] at h34
          rw [ht, g3] at e18
          rw [if_neg h34]
          refine fin _ S18 ?_ e18
          rw [hb2]
          exact fun z => absurd ((nI_eq (a := b) (b := 0) (by omega) (by decide)).mp z) (by omega)
end
