/-! ===== A RETRY IS TOLD (printed by wip/whole/gen9a.py) ===== -/
section
/-- failures that are SUPPRESSED under another -/
noncomputable def kSu (A : y_A) (P : Nat → Prop) (m : Nat) : y_A := fun x i => @ite Int32 (x = 29 ∧ P i ∧ A 29 i = -1 ∧ i ≠ m) (Classical.propDecidable _) (nI m) (A x i)
theorem kSu.o {A : y_A} {P : Nat → Prop} {m x i : Nat} (h : ¬ (x = 29 ∧ P i ∧ A 29 i = -1 ∧ i ≠ m)) : kSu A P m x i = A x i := if_neg h
theorem kSu.y {A : y_A} {P : Nat → Prop} {m i : Nat} (h : P i ∧ A 29 i = -1 ∧ i ≠ m) : kSu A P m 29 i = nI m := if_pos ⟨rfl, h⟩
theorem kSu.c {A : y_A} {P P' : Nat → Prop} {m : Nat} (h : ∀ i, P i ↔ P' i) : kSu A P m = kSu A P' m := by
  have : P = P' := funext fun i => propext (h i)
  rw [this]
theorem kSu.z {A : y_A} {P : Nat → Prop} {m : Nat} (h : ∀ i, ¬ P i) : kSu A P m = A := funext fun x => funext fun i => kSu.o (fun z => h i z.2.1)
/-- one more -/
theorem kSu.s {A : y_A} {P : Nat → Prop} {m f : Nat} (hne : f ≠ m) (h29 : kSu A P m 29 f = -1) (hm : m < 2 ^ 31) : xm_u2 (kSu A P m) 29 f (nI m) = kSu A (fun i => P i ∨ i = f) m := by
  have hA : A 29 f = -1 := by
    by_cases z : P f ∧ A 29 f = -1 ∧ f ≠ m
    · exact z.2.1
    · rw [kSu.o (fun y => z y.2)] at h29; exact h29
  funext x i
  by_cases e : x = 29 ∧ i = f
  · rw [e.1, e.2, y_same, kSu.y ⟨Or.inr rfl, hA, hne⟩]
  · rw [y_off e]
    by_cases z : x = 29 ∧ P i ∧ A 29 i = -1 ∧ i ≠ m
    · rw [z.1, kSu.y z.2, kSu.y ⟨Or.inl z.2.1, z.2.2⟩]
    · rw [kSu.o z, kSu.o (fun y => by
        rcases y.2.1 with u | u
        · exact z ⟨y.1, u, y.2.2⟩
        · exact e ⟨y.1, u⟩)]
theorem kSu.n {A : y_A} {P : Nat → Prop} {m f : Nat} (h : f = m ∨ kSu A P m 29 f ≠ -1) (hm : m < 2 ^ 31) : kSu A P m = kSu A (fun i => P i ∨ i = f) m := by
  funext x i
  by_cases z : x = 29 ∧ P i ∧ A 29 i = -1 ∧ i ≠ m
  · rw [z.1, kSu.y z.2, kSu.y ⟨Or.inl z.2.1, z.2.2⟩]
  · rw [kSu.o z]
    by_cases e : x = 29 ∧ i = f ∧ A 29 i = -1 ∧ i ≠ m
    · exfalso
      rcases h with h | h
      · exact e.2.2.2 (e.2.1.trans h)
      · apply h
        rw [← e.2.1, kSu.o (fun y => z ⟨e.1, y.2⟩)]
        exact e.2.2.1
    · rw [kSu.o (fun y => by
        rcases y.2.1 with u | u
        · exact z ⟨y.1, u, y.2.2⟩
        · exact e ⟨y.1, u, y.2.2⟩)]
/-- an inner call of p other than c, from below K, that FAILED so -/
def kFb (S : xm_S) (p c K i : Nat) : Prop := ∃ e, e < K ∧ e < xm_n S 1 6 ∧ xm_r S 2 e 2 = some p ∧ e ≠ c ∧ xm_r S 2 e 11 = some i
theorem k_80 {S : xm_S} {A : y_A} {X E B : Nat → Prop} {hb rb nb t w e1 e2 p c m : Nat} {l3 : Int32} (hM : kM S A X E B hb rb nb t w e1 e2) (hp : p < xm_n S 1 6) (hc : c < xm_n S 1 6) (hm : xm_r S 2 c 11 = some m) (hm2 : A 69 c = 2 ∧ A 70 c = nI m ∧ m < xm_n S 1 8) : ∀ (r k n : Nat), k + r = xm_n S 1 6 → r < n → rg_retryTold_80 n (nI p) (nI c) l3 (nI k) (kSu A (kFb S p c k) m) ∧ (rf_retryTold_80 n (nI p) (nI c) l3 (nI k) (kSu A (kFb S p c k) m)).2 = kSu A (kFb S p c (xm_n S 1 6)) m := by
  obtain ⟨⟨hC, hcnt, hb', hl, ht, hv, h1, h2, h3, h4, -⟩, hS, hgr, hI⟩ := hM
  have hbb := hb'
  unfold k_bnd at hbb
  have hN := hcnt.2.2.2.2.2.2.1
  have ixc : y_ix (nI c) = c := y_ix_nI (by omega)
  have yc : y_in (nI c) 4400 := y_in_nI (by omega) (by decide)
  have o : ∀ P x i, x ≠ 29 → kSu A P m x i = A x i := fun P x i z => kSu.o (fun y => z y.1)
  intro r
  induction r with
  | zero =>
    intro k n hk hn
    obtain ⟨n, rfl⟩ : ∃ j, n = j + 1 := ⟨n - 1, by omega⟩
    have cc : nI (xm_n S 1 6) ≤ nI k := nI_le (by omega) (by omega)
    unfold rg_retryTold_80 rf_retryTold_80
    rw [o _ 61 0 (by decide), hN, if_pos cc]
    refine ⟨⟨fun _ => trivial, fun z => absurd cc z⟩, ?_⟩
    rw [show xm_n S 1 6 = k by omega]
  | succ r ih =>
    intro k n hk hn
    obtain ⟨n, rfl⟩ : ∃ j, n = j + 1 := ⟨n - 1, by omega⟩
    have hkn : k < xm_n S 1 6 := by omega
    have cc : ¬ nI (xm_n S 1 6) ≤ nI k := nI_ge hkn (by omega)
    have ixk : y_ix (nI k) = k := y_ix_nI (by omega)
    have yk : y_in (nI k) 4400 := y_in_nI (by omega) (by decide)
    have hkc := h2 k hkn
    have h64 := hkc.2.2.2.2.2.2.2.2.2.2.1
    obtain ⟨i1, i2⟩ := ih (k + 1) n (by omega) (by omega)
    have skip : (∀ i, kFb S p c (k + 1) i ↔ kFb S p c k i) → kSu A (kFb S p c (k + 1)) m = kSu A (kFb S p c k) m := fun z => kSu.c z
    have step : ∀ i, kFb S p c (k + 1) i ↔ (kFb S p c k i ∨ (xm_r S 2 k 2 = some p ∧ k ≠ c ∧ xm_r S 2 k 11 = some i)) := fun i => by
      constructor
      · rintro ⟨e, e1, e2, e3, e4, e5⟩
        by_cases ek : e = k
        · rw [ek] at e3 e4 e5; exact Or.inr ⟨e3, e4, e5⟩
        · exact Or.inl ⟨e, by omega, e2, e3, e4, e5⟩
      · rintro (⟨e, e1, e2, e3, e4, e5⟩ | ⟨e3, e4, e5⟩)
        · exact ⟨e, by omega, e2, e3, e4, e5⟩
        · exact ⟨k, by omega, hkn, e3, e4, e5⟩
    have no : (¬ (xm_r S 2 k 2 = some p ∧ k ≠ c ∧ ∃ i, xm_r S 2 k 11 = some i)) → rg_retryTold_80 n (nI p) (nI c) l3 (nI k + 1) (kSu A (kFb S p c k) m) ∧ (rf_retryTold_80 n (nI p) (nI c) l3 (nI k + 1) (kSu A (kFb S p c k) m)).2 = kSu A (kFb S p c (xm_n S 1 6)) m := fun z => by
      rw [nI_1 k, ← skip (fun i => (step i).trans ⟨fun y => y.resolve_right (fun u => z ⟨u.1, u.2.1, i, u.2.2⟩), Or.inl⟩)]
      exact ⟨i1, i2⟩
    unfold rg_retryTold_80 rf_retryTold_80
    rw [ixc, ixk, o _ 61 0 (by decide), hN, if_neg cc, o _ 69 c (by decide), if_pos hm2.1, o _ 64 k (by decide), h64, o _ 69 k (by decide), o _ 70 k (by decide), o _ 70 c (by decide), hm2.2.1]
    have par : (kn (xm_r S 2 k 2) = nI p) ↔ xm_r S 2 k 2 = some p := by
      rcases hx : xm_r S 2 k 2 with _ | q
      · exact ⟨fun z => absurd (show (0 : Int32) ≤ nI p from nI_pos' (by omega)) (by rw [← z]; decide), fun z => by cases z⟩
      · have hq := hkc.2.2.2.2.2.2.2.2.2.2.2.2.2.2.2.2.2.2.2.2.2.2.2.2.2.1 q hx
        exact ⟨fun z => by rw [(nI_eq (a := q) (b := p) (by omega) (by omega)).mp z], fun z => by rw [Option.some.inj z]; rfl⟩
    by_cases c1 : kn (xm_r S 2 k 2) = nI p
    · have hkp := par.mp c1
      by_cases c2 : nI k = nI c
      · have ekc : k = c := (nI_eq (by omega) (by omega)).mp c2
        obtain ⟨n1, n2⟩ := no (fun z => z.2.1 ekc)
        rw [if_pos c1, if_pos c2]
        exact ⟨⟨fun z => absurd z cc, fun _ => ⟨yc, fun _ => ⟨yk, fun _ => ⟨fun _ => n1, fun z => absurd c2 z⟩, fun z => absurd c1 z⟩, fun z => absurd hm2.1 z⟩⟩, n2⟩
      · have ekc : k ≠ c := fun z => c2 (by rw [z])
        rw [if_pos c1, if_neg c2]
        by_cases c3 : A 69 k = 2
        · have h82 : xm_i S 2 k 8 = 2 := by rw [hkc.2.2.2.2.1]; exact c3
          obtain ⟨f, hf⟩ := ((hI.2.2.2.2.2.2.2.2.2.2.2.1).2.2.choose_spec.2.2.2 k hkn).2.1 h82
          have hfn := hkc.2.2.2.2.2.2.2.2.2.2.2.2.2.2.2.2.2.2.2.2.2.2.2.2.2.2.2 f hf
          have h11 := hkc.2.2.2.2.2.2.2.2.2.2.2.2.2.2.2.1
          rw [hf, c3, if_pos rfl] at h11
          have h70 : A 70 k = nI f := h11.symm
          have ixf : y_ix (nI f) = f := y_ix_nI (by omega)
          have yf : y_in (nI f) 4400 := y_in_nI (by omega) (by decide)
          have eP : ∀ i, (kFb S p c k i ∨ i = f) ↔ kFb S p c (k + 1) i := fun i => by
            rw [step i]
            exact or_congr_right ⟨fun z => ⟨hkp, ekc, by rw [z]; exact hf⟩, fun z => Option.some.inj (z.2.2.symm.trans hf)⟩
          rw [if_pos c3, h70, ixf]
          have hkeep : (f = m ∨ kSu A (kFb S p c k) m 29 f ≠ -1) → rg_retryTold_80 n (nI p) (nI c) l3 (nI k + 1) (kSu A (kFb S p c k) m) ∧ (rf_retryTold_80 n (nI p) (nI c) l3 (nI k + 1) (kSu A (kFb S p c k) m)).2 = kSu A (kFb S p c (xm_n S 1 6)) m := fun z => by
            rw [nI_1 k, kSu.n z (by omega), kSu.c eP]
            exact ⟨i1, i2⟩
          by_cases c4 : nI f = nI m
          · have efm : f = m := (nI_eq (by omega) (by omega)).mp c4
            obtain ⟨n1, n2⟩ := hkeep (Or.inl efm)
            rw [if_pos c4]
            exact ⟨⟨fun z => absurd z cc, fun _ => ⟨yc, fun _ => ⟨yk, fun _ => ⟨fun z => absurd z c2, fun _ => ⟨fun _ => ⟨fun _ => n1, fun z => absurd c4 z⟩, fun z => absurd c3 z⟩⟩, fun z => absurd c1 z⟩, fun z => absurd hm2.1 z⟩⟩, n2⟩
          · have efm : f ≠ m := fun z => c4 (by rw [z])
            rw [if_neg c4]
            by_cases c5 : kSu A (kFb S p c k) m 29 f = -1
            · rw [if_pos c5, kSu.s efm c5 (by omega), kSu.c eP, nI_1 k]
              exact ⟨⟨fun z => absurd z cc, fun _ => ⟨yc, fun _ => ⟨yk, fun _ => ⟨fun z => absurd z c2, fun _ => ⟨fun _ => ⟨fun z => absurd z c4, fun _ => ⟨yf, fun _ => i1, fun z => absurd c5 z⟩⟩, fun z => absurd c3 z⟩⟩, fun z => absurd c1 z⟩, fun z => absurd hm2.1 z⟩⟩, i2⟩
            · obtain ⟨n1, n2⟩ := hkeep (Or.inr c5)
              rw [if_neg c5]
              exact ⟨⟨fun z => absurd z cc, fun _ => ⟨yc, fun _ => ⟨yk, fun _ => ⟨fun z => absurd z c2, fun _ => ⟨fun _ => ⟨fun z => absurd z c4, fun _ => ⟨yf, fun z => absurd z c5, fun _ => n1⟩⟩, fun z => absurd c3 z⟩⟩, fun z => absurd c1 z⟩, fun z => absurd hm2.1 z⟩⟩, n2⟩
        · have hno : ∀ i, xm_r S 2 k 11 ≠ some i := fun i z => by
            have h11 := hkc.2.2.2.2.2.2.2.2.2.2.2.2.2.2.2.1
            have hin := hkc.2.2.2.2.2.2.2.2.2.2.2.2.2.2.2.2.2.2.2.2.2.2.2.2.2.2.2 i z
            rw [z, if_neg c3] at h11
            exact absurd (show (0 : Int32) ≤ nI i from nI_pos' (by omega)) (by rw [show nI i = -1 from h11]; decide)
          obtain ⟨n1, n2⟩ := no (fun z => hno _ z.2.2.choose_spec)
          rw [if_neg c3]
          exact ⟨⟨fun z => absurd z cc, fun _ => ⟨yc, fun _ => ⟨yk, fun _ => ⟨fun z => absurd z c2, fun _ => ⟨fun z => absurd z c3, fun _ => n1⟩⟩, fun z => absurd c1 z⟩, fun z => absurd hm2.1 z⟩⟩, n2⟩
    · obtain ⟨n1, n2⟩ := no (fun z => c1 (par.mpr z.1))
      rw [if_neg c1]
      exact ⟨⟨fun z => absurd z cc, fun _ => ⟨yc, fun _ => ⟨yk, fun z => absurd z c1, fun _ => n1⟩, fun z => absurd hm2.1 z⟩⟩, n2⟩
end
