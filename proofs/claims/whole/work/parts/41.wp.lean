/-! ===== RUNS WITH A GOAL: xw: it ends, and the goal holds of its answer and store ===== -/
section
def xw (d mi pc : Nat) (L : xm_L) (st : List xm_V) (S : xm_S) (Q : Option xm_V → xm_S → Prop) : Prop := ∃ (n : Nat) (r : Option xm_V) (S' : xm_S), xm_exec xm_P xm_ML n d mi pc L st S = some (r, S') ∧ Q r S'
def xm_A0 (m : Nat) (as : List xm_V) : xm_L := as.map some ++ List.replicate (xm_ML m - as.length) none
/-- a call of a method -/
def xc (d m : Nat) (as : List xm_V) (S : xm_S) (Q : Option xm_V → xm_S → Prop) : Prop := xw d m 0 (xm_A0 m as) [] S Q
theorem xw.mono {d mi pc : Nat} {L : xm_L} {st : List xm_V} {S : xm_S} {Q Q' : Option xm_V → xm_S → Prop} (h : xw d mi pc L st S Q) (hq : ∀ r S', Q r S' → Q' r S') : xw d mi pc L st S Q' := by
  obtain ⟨n, r, S', hx, h⟩ := h
  exact ⟨n, r, S', hx, hq r S' h⟩
theorem xc.mono {d m : Nat} {as : List xm_V} {S : xm_S} {Q Q' : Option xm_V → xm_S → Prop} (h : xc d m as S Q) (hq : ∀ r S', Q r S' → Q' r S') : xc d m as S Q' := xw.mono h hq
theorem xw.s {d mi pc : Nat} {L : xm_L} {st : List xm_V} {S : xm_S} {Q : Option xm_V → xm_S → Prop} {pc' : Nat} {L' : xm_L} {st' : List xm_V} {S1 : xm_S} (h : xm_step (xm_P mi pc) L st S = some (.inl (pc', L', st', S1))) (k : xw d mi pc' L' st' S1 Q) : xw d mi pc L st S Q := by
  obtain ⟨n, r, S', hx, hq⟩ := k
  refine ⟨n + 1, r, S', ?_, hq⟩
  rw [xm_exec_s, h]
  exact hx
theorem xw.ret {d mi pc : Nat} {L : xm_L} {st : List xm_V} {S : xm_S} {Q : Option xm_V → xm_S → Prop} {r : Option xm_V} (h : xm_step (xm_P mi pc) L st S = some (.inr (.inl r))) (k : Q r S) : xw d mi pc L st S Q := by
  refine ⟨1, r, S, ?_, k⟩
  rw [xm_exec_s, h]
theorem xw.call {d mi pc : Nat} {L : xm_L} {st : List xm_V} {S : xm_S} {Q : Option xm_V → xm_S → Prop} {m : Nat} {as : List xm_V} {nx : Nat} {L' : xm_L} {st' : List xm_V} (h : xm_step (xm_P mi pc) L st S = some (.inr (.inr (m, as, nx, L', st')))) (k : xc d m as S (fun r S1 => xw (d + 1) mi nx L' (r.toList ++ st') S1 Q)) : xw (d + 1) mi pc L st S Q := by
  obtain ⟨n, r, S1, hx, n2, r2, S2, hy, hq⟩ := k
  refine ⟨max n n2 + 1, r2, S2, ?_, hq⟩
  rw [xm_exec_s, h]
  show (if d + 1 = 0 then none else _) = _
  rw [if_neg (by omega), Nat.add_sub_cancel]
  have e1 := xm_mono_le xm_P xm_ML (Nat.le_max_left n n2) hx
  unfold xm_A0 at e1
  rw [e1]
  exact xm_mono_le xm_P xm_ML (Nat.le_max_right n n2) hy
/-- one frame more does no harm -/
theorem xm_exec_d : ∀ (n d mi pc : Nat) (L : xm_L) (st : List xm_V) (S : xm_S) (x : Option xm_V × xm_S), xm_exec xm_P xm_ML n d mi pc L st S = some x → xm_exec xm_P xm_ML n (d + 1) mi pc L st S = some x := by
  intro n
  induction n with
  | zero => intro d mi pc L st S x h; simp [xm_exec] at h
  | succ n ih =>
    intro d mi pc L st S x h
    rw [xm_exec_s] at h
    rw [xm_exec_s]
    rcases hq : xm_step (xm_P mi pc) L st S with _ | (q | (r | q))
    · rw [hq] at h
      cases h
    · rw [hq] at h
      exact ih _ _ _ _ _ _ _ h
    · rw [hq] at h
      exact h
    · rw [hq] at h
      replace h : (if d = 0 then none else (xm_exec xm_P xm_ML n (d - 1) q.1 0 (q.2.1.map some ++ List.replicate (xm_ML q.1 - q.2.1.length) none) [] S).bind fun z => xm_exec xm_P xm_ML n d mi q.2.2.1 q.2.2.2.1 (z.1.toList ++ q.2.2.2.2) z.2) = some x := h
      show (if d + 1 = 0 then none else (xm_exec xm_P xm_ML n (d + 1 - 1) q.1 0 (q.2.1.map some ++ List.replicate (xm_ML q.1 - q.2.1.length) none) [] S).bind fun z => xm_exec xm_P xm_ML n (d + 1) mi q.2.2.1 q.2.2.2.1 (z.1.toList ++ q.2.2.2.2) z.2) = some x
      by_cases hd : d = 0
      · rw [if_pos hd] at h
        cases h
      · rw [if_neg hd] at h
        rw [if_neg (by omega)]
        obtain ⟨z, hz, h2⟩ := Option.bind_eq_some_iff.mp h
        have e := ih _ _ _ _ _ _ _ hz
        rw [show d - 1 + 1 = d + 1 - 1 by omega] at e
        rw [e]
        exact ih _ _ _ _ _ _ _ h2
theorem xw.up {d d' mi pc : Nat} {L : xm_L} {st : List xm_V} {S : xm_S} {Q : Option xm_V → xm_S → Prop} (h : xw d mi pc L st S Q) (hd : d ≤ d') : xw d' mi pc L st S Q := by
  obtain ⟨j, rfl⟩ := Nat.exists_eq_add_of_le hd
  induction j with
  | zero => exact h
  | succ j ih =>
    obtain ⟨n, r, S', hx, hq⟩ := ih (Nat.le_add_right d j)
    exact ⟨n, r, S', xm_exec_d _ _ _ _ _ _ _ _ hx, hq⟩
theorem xc.up {d d' m : Nat} {as : List xm_V} {S : xm_S} {Q : Option xm_V → xm_S → Prop} (h : xc d m as S Q) (hd : d ≤ d') : xc d' m as S Q := xw.up h hd
end
/-! ===== THE REFERENCE'S OWN STATE: its fields by their slot, and the jobs as a list, the top first ===== -/
section
abbrev y_A : Type := Nat → Nat → Int32
abbrev y_J : Type := Int32 × Int32 × Int32 × Int32 × Int32
/-- of each field: its kind (11: a number of the object itself), the number of its array, its length -/
def y_tab : List (Nat × Nat × Nat) := [(11, 0, 1), (11, 0, 1), (13, 0, 8), (13, 1, 8), (13, 2, 8), (11, 0, 1), (13, 3, 30), (13, 4, 30), (13, 5, 30), (13, 6, 30), (13, 7, 30), (11, 0, 1), (13, 8, 30), (13, 9, 30), (13, 10, 30), (13, 11, 30), (13, 12, 30), (11, 0, 1), (13, 13, 4400), (13, 14, 4400), (13, 15, 4400), (13, 16, 4400), (13, 17, 4400), (11, 0, 1), (13, 18, 4400), (13, 19, 4400), (13, 20, 4400), (13, 21, 4400), (13, 22, 4400), (13, 23, 4400), (11, 0, 1), (13, 24, 24), (13, 25, 24), (13, 26, 24), (13, 27, 24), (13, 28, 24), (13, 29, 24), (13, 30, 24), (13, 31, 24), (13, 32, 24), (13, 33, 24), (13, 34, 24), (13, 35, 24), (13, 36, 240), (13, 37, 192), (13, 38, 192), (14, 0, 192), (11, 0, 1), (13, 39, 11), (13, 40, 55), (11, 0, 1), (13, 41, 60), (13, 42, 60), (13, 43, 60), (13, 44, 60), (13, 45, 60), (13, 46, 60), (13, 47, 60), (13, 48, 60), (13, 49, 60), (11, 0, 1), (11, 0, 1), (13, 50, 4400), (13, 51, 4400), (13, 52, 4400), (13, 53, 4400), (13, 54, 4400), (13, 55, 4400), (13, 56, 4400), (13, 57, 4400), (13, 58, 4400), (14, 1, 4400), (13, 59, 4400), (13, 60, 4400), (13, 61, 4400), (14, 2, 4400), (14, 3, 4400), (14, 4, 4400), (14, 5, 4400), (14, 6, 4400), (14, 7, 4400), (13, 62, 4400), (11, 0, 1), (13, 63, 20000), (13, 64, 20000), (13, 65, 20000), (13, 66, 20000), (13, 67, 20000), (11, 0, 1), (11, 0, 1), (13, 68, 12), (13, 69, 12), (13, 70, 12), (13, 71, 12), (13, 72, 12), (13, 73, 12), (13, 74, 12), (13, 75, 12), (13, 76, 12), (13, 77, 12), (13, 78, 12), (13, 79, 12), (14, 8, 12), (11, 0, 1), (13, 80, 10), (13, 81, 10), (13, 82, 10), (13, 83, 10), (13, 84, 10), (14, 9, 10)]
def y_k (x : Nat) : Nat × Nat × Nat := y_tab.getD x (0, 0, 0)
def y_m (S : xm_S) (x k : Nat) : Int32 := xm_i S (y_k x).1 (y_k x).2.1 (if (y_k x).1 = 11 then x else k)
def y_ix (i : Int32) : Nat := i.toNatClampNeg
/-- an index within bounds -/
def y_in (i : Int32) (n : Nat) : Prop := 0 ≤ i ∧ y_ix i < n
theorem y_in.ix {i : Int32} {n : Nat} (h : y_in i n) : xm_ix i n = some (y_ix i) := by
  unfold xm_ix
  rw [if_neg]
  · rfl
  · rintro (z | z)
    · exact absurd h.1 (Int32.not_le.mpr z)
    · exact Nat.lt_irrefl _ (Nat.lt_of_lt_of_le h.2 z)
/-- the reference's arrays lie where they lie -/
def y_W (S : xm_S) : Prop := ∀ x, x < 110 → (y_k x).1 ≠ 11 → xm_r S 11 0 x = some (y_k x).2.1 ∧ xm_n S (10 + (y_k x).1) (y_k x).2.1 = (y_k x).2.2
def y_q (S : xm_S) (k : Nat) : y_J := (y_m S 83 k, y_m S 84 k, y_m S 85 k, y_m S 86 k, y_m S 87 k)
def y_Js (S : xm_S) (js : List y_J) : Prop := y_m S 88 0 = nI js.length ∧ js.length ≤ 20000 ∧ ∀ k, k < js.length → js.reverse[k]? = some (y_q S k)
def y_R (S : xm_S) (A : y_A) (js : List y_J) : Prop := y_W S ∧ (∀ x, x < 110 → (x < 83 ∨ 88 < x) → ∀ k, (y_k x).1 ≠ 11 ∨ k = 0 → y_m S x k = A x k) ∧ y_Js S js
/-- what the reference leaves as it is -/
def y_S (S S' : xm_S) : Prop := S'.2 = S.2 ∧ ∀ p q j, p ≠ 11 → p ≠ 13 → p ≠ 14 → xm_i S' p q j = xm_i S p q j
theorem y_S.rf (S : xm_S) : y_S S S := ⟨rfl, fun _ _ _ _ _ _ => rfl⟩
theorem y_S.tr {S T U : xm_S} (h : y_S S T) (g : y_S T U) : y_S S U := ⟨g.1.trans h.1, fun p q j a b c => (g.2 p q j a b c).trans (h.2 p q j a b c)⟩
def ra (d mi pc : Nat) (L : xm_L) (st : List xm_V) (A : y_A) (js : List y_J) (Q : Option xm_V → y_A → List y_J → Prop) : Prop := ∀ S, y_R S A js → xw d mi pc L st S (fun r S' => y_S S S' ∧ ∃ A' js', y_R S' A' js' ∧ Q r A' js')
def rc (d m : Nat) (as : List xm_V) (A : y_A) (js : List y_J) (Q : Option xm_V → y_A → List y_J → Prop) : Prop := ra d m 0 (xm_A0 m as) [] A js Q
theorem ra.mono {d mi pc : Nat} {L : xm_L} {st : List xm_V} {A : y_A} {js : List y_J} {Q Q' : Option xm_V → y_A → List y_J → Prop} (h : ra d mi pc L st A js Q) (hq : ∀ r A' js', Q r A' js' → Q' r A' js') : ra d mi pc L st A js Q' := fun S hS => (h S hS).mono (fun r _ z => ⟨z.1, z.2.choose, z.2.choose_spec.choose, z.2.choose_spec.choose_spec.1, hq _ _ _ z.2.choose_spec.choose_spec.2⟩)
theorem ra.up {d d' mi pc : Nat} {L : xm_L} {st : List xm_V} {A : y_A} {js : List y_J} {Q : Option xm_V → y_A → List y_J → Prop} (h : ra d mi pc L st A js Q) (hd : d ≤ d') : ra d' mi pc L st A js Q := fun S hS => (h S hS).up hd
theorem ra.s {d mi pc : Nat} {L : xm_L} {st : List xm_V} {A : y_A} {js : List y_J} {Q : Option xm_V → y_A → List y_J → Prop} {pc' : Nat} {L' : xm_L} {st' : List xm_V} (h : ∀ S, xm_step (xm_P mi pc) L st S = some (.inl (pc', L', st', S))) (k : ra d mi pc' L' st' A js Q) : ra d mi pc L st A js Q := fun S hS => xw.s (h S) (k S hS)
theorem ra.ret {d mi pc : Nat} {L : xm_L} {st : List xm_V} {A : y_A} {js : List y_J} {Q : Option xm_V → y_A → List y_J → Prop} {r : Option xm_V} (h : ∀ S, xm_step (xm_P mi pc) L st S = some (.inr (.inl r))) (k : Q r A js) : ra d mi pc L st A js Q := fun S hS => xw.ret (h S) ⟨y_S.rf S, A, js, hS, k⟩
theorem ra.call {d mi pc : Nat} {L : xm_L} {st : List xm_V} {A : y_A} {js : List y_J} {Q : Option xm_V → y_A → List y_J → Prop} {m : Nat} {as : List xm_V} {nx : Nat} {L' : xm_L} {st' : List xm_V} (h : ∀ S, xm_step (xm_P mi pc) L st S = some (.inr (.inr (m, as, nx, L', st')))) (k : rc d m as A js (fun r A1 js1 => ra (d + 1) mi nx L' (r.toList ++ st') A1 js1 Q)) : ra (d + 1) mi pc L st A js Q := fun S hS => by
  refine xw.call (h S) (xw.mono (k S hS) ?_)
  rintro r S1 ⟨h1, A1, js1, h2, h3⟩
  refine xw.mono (h3 S1 h2) ?_
  rintro r2 S2 ⟨h4, z⟩
  exact ⟨h1.tr h4, z⟩
theorem y_kb : ∀ x, x < 110 → (y_k x).1 = 11 ∨ (y_k x).1 = 13 ∨ (y_k x).1 = 14 := by decide +kernel
/-- other fields lie elsewhere -/
theorem y_ap : ∀ x, x < 110 → ∀ z, z < 110 → (y_k x).1 ≠ 11 → (y_k x).1 = (y_k z).1 → (y_k x).2.1 = (y_k z).2.1 → x = z := by decide +kernel
theorem y_m_i {S : xm_S} {x z k : Nat} {i : Int32} (hx : x < 110) (hz : z < 110) (hk : (y_k z).1 ≠ 11 ∨ k = 0) (j : Nat) (hj : (y_k x).1 ≠ 11 ∨ j = 0) : y_m (xm_si S (y_k x).1 (y_k x).2.1 (if (y_k x).1 = 11 then x else j) i) z k = if z = x ∧ k = j then i else y_m S z k := by
  unfold y_m xm_si xm_u3
  show (if _ then _ else _) = _
  by_cases h : z = x ∧ k = j
  · rw [if_pos h, if_pos]
    refine ⟨by rw [h.1], by rw [h.1], by rw [h.1, h.2]⟩
  · rw [if_neg h, if_neg]
    rintro ⟨a, b, c⟩
    apply h
    by_cases e : (y_k z).1 = 11
    · rw [if_pos e, if_pos (a ▸ e)] at c
      refine ⟨c, ?_⟩
      rw [hk.resolve_left (fun q => q e), hj.resolve_left (fun q => q (a ▸ e))]
    · have : z = x := y_ap z hz x hx e a b
      rw [if_neg e, if_neg (a ▸ e)] at c
      exact ⟨this, c⟩
theorem y_R.put {S : xm_S} {A : y_A} {js : List y_J} (h : y_R S A js) {x : Nat} (hx : x < 110) (h8 : x < 83 ∨ 88 < x) {j : Nat} (hj : (y_k x).1 ≠ 11 ∨ j = 0) (i : Int32) : y_R (xm_si S (y_k x).1 (y_k x).2.1 (if (y_k x).1 = 11 then x else j) i) (xm_u2 A x j i) js := by
  obtain ⟨h1, h2, h3, h4, h5⟩ := h
  have q8 : ∀ k, y_q (xm_si S (y_k x).1 (y_k x).2.1 (if (y_k x).1 = 11 then x else j) i) k = y_q S k := fun k => by
    unfold y_q
    rw [y_m_i hx (by decide) (Or.inl (by decide)) j hj, y_m_i hx (by decide) (Or.inl (by decide)) j hj, y_m_i hx (by decide) (Or.inl (by decide)) j hj, y_m_i hx (by decide) (Or.inl (by decide)) j hj, y_m_i hx (by decide) (Or.inl (by decide)) j hj]
    rw [if_neg (by omega), if_neg (by omega), if_neg (by omega), if_neg (by omega), if_neg (by omega)]
  refine ⟨fun z hz hk => h1 z hz hk, fun z hz hz8 k hk => ?_, ?_, h4, fun k hk => by rw [q8]; exact h5 k hk⟩
  · rw [y_m_i hx hz hk j hj]
    unfold xm_u2
    rw [h2 z hz hz8 k hk]
  · rw [y_m_i hx (by decide) (Or.inr rfl) j hj, if_neg (by omega)]
    exact h3
theorem y_S.put (S : xm_S) {x : Nat} (hx : x < 110) (j : Nat) (i : Int32) : y_S S (xm_si S (y_k x).1 (y_k x).2.1 j i) := by
  refine ⟨rfl, fun p q r a b c => ?_⟩
  show xm_u3 _ _ _ _ _ p q r = _
  unfold xm_u3
  rw [if_neg]
  rintro ⟨z, -, -⟩
  rcases y_kb x hx with e | e | e <;> omega
/-- reading a number of the object -/
theorem ra.gi {d mi pc : Nat} {L : xm_L} {st : List xm_V} {A : y_A} {js : List y_J} {Q : Option xm_V → y_A → List y_J → Prop} {x nx : Nat} {v : Int32} (hp : xm_P mi pc = (.getfield (90112 + 32 * x), nx)) (hx : (decide (x < 110) && (decide (x < 83 ∨ 88 < x) && decide ((y_k x).1 = 11 ∧ (y_k x).2.1 = 0))) = true) (hv : A x 0 = v) (k : ra d mi nx L (.inl v :: st) A js Q) : ra d mi pc L (.inr (some (11, 0)) :: st) A js Q := fun S hS => by
  simp only [Bool.and_eq_true, decide_eq_true_eq] at hx
  obtain ⟨a, b, c⟩ := hx
  refine xw.s ?_ (k S hS)
  rw [hp]
  show xm_getf (90112 + 32 * x) nx L (.inr (some (11, 0)) :: st) S = _
  unfold xm_getf
  have e := hS.2.1 x a b 0 (Or.inr rfl)
  unfold y_m at e
  rw [c.1, c.2, if_pos rfl] at e
  show (if _ then _ else _) = _
  rw [if_pos (by omega), if_pos (by omega), show (90112 + 32 * x) / 32 % 256 = x by omega, e, hv]
/-- reading an array -/
theorem ra.ga {d mi pc : Nat} {L : xm_L} {st : List xm_V} {A : y_A} {js : List y_J} {Q : Option xm_V → y_A → List y_J → Prop} {x nx c i : Nat} (hp : xm_P mi pc = (.getfield (90112 + 32 * x + (c + 2)), nx)) (hx : (decide (x < 110) && (decide (c = 13 ∨ c = 14) && decide ((y_k x).1 = c ∧ (y_k x).2.1 = i))) = true) (k : ra d mi nx L (.inr (some (c, i)) :: st) A js Q) : ra d mi pc L (.inr (some (11, 0)) :: st) A js Q := fun S hS => by
  simp only [Bool.and_eq_true, decide_eq_true_eq] at hx
  obtain ⟨a, b, e1, e2⟩ := hx
  refine xw.s ?_ (k S hS)
  rw [hp]
  show xm_getf (90112 + 32 * x + (c + 2)) nx L (.inr (some (11, 0)) :: st) S = _
  unfold xm_getf
  have e := (hS.1 x a (by omega)).1
  show (if _ then _ else _) = _
  rw [if_pos (by omega), if_neg (by omega), show (90112 + 32 * x + (c + 2)) / 32 % 256 = x by omega, e, show (90112 + 32 * x + (c + 2)) % 32 - 2 = c by omega, e2]
  rfl
/-- an element -/
theorem ra.ld {d mi pc : Nat} {L : xm_L} {st : List xm_V} {A : y_A} {js : List y_J} {Q : Option xm_V → y_A → List y_J → Prop} {nx a : Nat} {i v : Int32} (x n : Nat) (hp : xm_P mi pc = (.iaload, nx)) (hx : (decide (x < 110) && (decide (x < 83 ∨ 88 < x) && decide (y_k x = (13, a, n)))) = true) (hi : y_in i n) (hv : A x (y_ix i) = v) (k : ra d mi nx L (.inl v :: st) A js Q) : ra d mi pc L (.inl i :: .inr (some (13, a)) :: st) A js Q := fun S hS => by
  simp only [Bool.and_eq_true, decide_eq_true_eq] at hx
  obtain ⟨a1, b, c⟩ := hx
  refine xw.s ?_ (k S hS)
  rw [hp]
  show xm_ild nx L (.inl i :: .inr (some (13, a)) :: st) S = _
  unfold xm_ild
  have e := hS.2.1 x a1 b (y_ix i) (Or.inl (by rw [c]; simp))
  have e2 := (hS.1 x a1 (by rw [c]; simp)).2
  unfold y_m at e
  rw [c] at e e2
  replace e : xm_i S 13 a (y_ix i) = A x (y_ix i) := e
  replace e2 : xm_n S 23 a = n := e2
  show (if _ then _ else _) = _
  rw [if_pos (Or.inl rfl)]
  show (xm_ix i (xm_n S 23 a)).bind _ = _
  rw [e2, hi.ix]
  show some _ = _
  rw [e, hv]
theorem ra.lz {d mi pc : Nat} {L : xm_L} {st : List xm_V} {A : y_A} {js : List y_J} {Q : Option xm_V → y_A → List y_J → Prop} {nx a : Nat} {i v : Int32} (x n : Nat) (hp : xm_P mi pc = (.baload, nx)) (hx : (decide (x < 110) && (decide (x < 83 ∨ 88 < x) && decide (y_k x = (14, a, n)))) = true) (hi : y_in i n) (hv : A x (y_ix i) = v) (k : ra d mi nx L (.inl v :: st) A js Q) : ra d mi pc L (.inl i :: .inr (some (14, a)) :: st) A js Q := fun S hS => by
  simp only [Bool.and_eq_true, decide_eq_true_eq] at hx
  obtain ⟨a1, b, c⟩ := hx
  refine xw.s ?_ (k S hS)
  rw [hp]
  show xm_zld nx L (.inl i :: .inr (some (14, a)) :: st) S = _
  unfold xm_zld
  have e := hS.2.1 x a1 b (y_ix i) (Or.inl (by rw [c]; simp))
  have e2 := (hS.1 x a1 (by rw [c]; simp)).2
  unfold y_m at e
  rw [c] at e e2
  replace e : xm_i S 14 a (y_ix i) = A x (y_ix i) := e
  replace e2 : xm_n S 24 a = n := e2
  show (if _ then _ else _) = _
  rw [if_pos rfl, e2, hi.ix]
  show some _ = _
  rw [e, hv]
/-- writing a number of the object -/
theorem ra.pi {d mi pc : Nat} {L : xm_L} {st : List xm_V} {A : y_A} {js : List y_J} {Q : Option xm_V → y_A → List y_J → Prop} {x nx : Nat} {v : Int32} (hp : xm_P mi pc = (.putfield (90112 + 32 * x), nx)) (hx : (decide (x < 110) && (decide (x < 83 ∨ 88 < x) && decide ((y_k x).1 = 11 ∧ (y_k x).2.1 = 0))) = true) (k : ra d mi nx L st (xm_u2 A x 0 v) js Q) : ra d mi pc L (.inl v :: .inr (some (11, 0)) :: st) A js Q := fun S hS => by
  simp only [Bool.and_eq_true, decide_eq_true_eq] at hx
  obtain ⟨a, b, c⟩ := hx
  have e := hS.put a b (j := 0) (Or.inr rfl) v
  have e2 := y_S.put S a (if (y_k x).1 = 11 then x else 0) v
  refine xw.s ?_ (xw.mono (k _ e) (fun r S' z => ⟨e2.tr z.1, z.2⟩))
  rw [hp]
  show xm_putf (90112 + 32 * x) nx L (.inl v :: .inr (some (11, 0)) :: st) S = _
  unfold xm_putf
  show (if _ then _ else _) = _
  rw [if_pos ⟨by omega, by omega⟩, show (90112 + 32 * x) / 32 % 256 = x by omega, c.1, c.2, if_pos rfl]
theorem ra.si {d mi pc : Nat} {L : xm_L} {st : List xm_V} {A : y_A} {js : List y_J} {Q : Option xm_V → y_A → List y_J → Prop} {nx a : Nat} {i v : Int32} (x n : Nat) (hp : xm_P mi pc = (.iastore, nx)) (hx : (decide (x < 110) && (decide (x < 83 ∨ 88 < x) && decide (y_k x = (13, a, n)))) = true) (hi : y_in i n) (k : ra d mi nx L st (xm_u2 A x (y_ix i) v) js Q) : ra d mi pc L (.inl v :: .inl i :: .inr (some (13, a)) :: st) A js Q := fun S hS => by
  simp only [Bool.and_eq_true, decide_eq_true_eq] at hx
  obtain ⟨a1, b, c⟩ := hx
  have e := hS.put a1 b (j := y_ix i) (Or.inl (by rw [c]; simp)) v
  have e2 := y_S.put S a1 (if (y_k x).1 = 11 then x else y_ix i) v
  have e3 := (hS.1 x a1 (by rw [c]; simp)).2
  refine xw.s ?_ (xw.mono (k _ e) (fun r S' z => ⟨e2.tr z.1, z.2⟩))
  rw [hp]
  show xm_ist nx L (.inl v :: .inl i :: .inr (some (13, a)) :: st) S = _
  unfold xm_ist
  rw [c] at e3
  replace e3 : xm_n S 23 a = n := e3
  show (if _ then _ else _) = _
  rw [if_pos rfl, e3, hi.ix, c]
  rfl
theorem ra.sz {d mi pc : Nat} {L : xm_L} {st : List xm_V} {A : y_A} {js : List y_J} {Q : Option xm_V → y_A → List y_J → Prop} {nx a : Nat} {i v : Int32} (x n : Nat) (hp : xm_P mi pc = (.bastore, nx)) (hx : (decide (x < 110) && (decide (x < 83 ∨ 88 < x) && decide (y_k x = (14, a, n)))) = true) (hi : y_in i n) (h01 : v = 0 ∨ v = 1) (k : ra d mi nx L st (xm_u2 A x (y_ix i) v) js Q) : ra d mi pc L (.inl v :: .inl i :: .inr (some (14, a)) :: st) A js Q := fun S hS => by
  simp only [Bool.and_eq_true, decide_eq_true_eq] at hx
  obtain ⟨a1, b, c⟩ := hx
  have e := hS.put a1 b (j := y_ix i) (Or.inl (by rw [c]; simp)) v
  have e2 := y_S.put S a1 (if (y_k x).1 = 11 then x else y_ix i) v
  have e3 := (hS.1 x a1 (by rw [c]; simp)).2
  refine xw.s ?_ (xw.mono (k _ e) (fun r S' z => ⟨e2.tr z.1, z.2⟩))
  rw [hp]
  show xm_zst nx L (.inl v :: .inl i :: .inr (some (14, a)) :: st) S = _
  unfold xm_zst
  rw [c] at e3
  replace e3 : xm_n S 24 a = n := e3
  show (if _ then _ else _) = _
  rw [if_pos ⟨rfl, h01⟩, e3, hi.ix, c]
  rfl
end
/-! ===== branches, switches, calls ===== -/
section
theorem y_ceq (x y : Int32) : xm_cmp .eq x y = true ↔ x = y := decide_eq_true_iff
theorem y_cne (x y : Int32) : xm_cmp .ne x y = true ↔ ¬ x = y := decide_eq_true_iff
theorem y_clt (x y : Int32) : xm_cmp .lt x y = true ↔ x < y := decide_eq_true_iff
theorem y_cge (x y : Int32) : xm_cmp .ge x y = true ↔ y ≤ x := decide_eq_true_iff
theorem y_cgt (x y : Int32) : xm_cmp .gt x y = true ↔ y < x := decide_eq_true_iff
theorem y_cle (x y : Int32) : xm_cmp .le x y = true ↔ x ≤ y := decide_eq_true_iff
theorem ra.b {d mi pc : Nat} {L : xm_L} {st : List xm_V} {A : y_A} {js : List y_J} {Q : Option xm_V → y_A → List y_J → Prop} {β : Type} {F f1 f2 : β} {c : Prop} [Decidable c] {g1 g2 : Prop} {cd : Jvm.ClassFile.Cond} {x y : Int32} (t e : Nat) {st' : List xm_V} (hst : ∀ S, xm_step (xm_P mi pc) L st S = some (.inl (if xm_cmp cd x y = true then t else e, L, st', S))) (hc : xm_cmp cd x y = true ↔ c) (hk : (if c then f1 else f2) = F) (hg : (c → g1) ∧ (¬ c → g2)) (h1 : c → g1 → f1 = F → ra d mi t L st' A js Q) (h2 : ¬ c → g2 → f2 = F → ra d mi e L st' A js Q) : ra d mi pc L st A js Q := by
  by_cases h : c
  · refine ra.s (fun S => (hst S).trans ?_) (h1 h (hg.1 h) (by rw [if_pos h] at hk; exact hk))
    rw [if_pos (hc.mpr h)]
  · refine ra.s (fun S => (hst S).trans ?_) (h2 h (hg.2 h) (by rw [if_neg h] at hk; exact hk))
    rw [if_neg (fun z => h (hc.mp z))]
theorem ra.bn {d mi pc : Nat} {L : xm_L} {st : List xm_V} {A : y_A} {js : List y_J} {Q : Option xm_V → y_A → List y_J → Prop} {β : Type} {F f1 f2 : β} {c : Prop} [Decidable c] {g1 g2 : Prop} {cd : Jvm.ClassFile.Cond} {x y : Int32} (t e : Nat) {st' : List xm_V} (hst : ∀ S, xm_step (xm_P mi pc) L st S = some (.inl (if xm_cmp cd x y = true then t else e, L, st', S))) (hc : xm_cmp cd x y = true ↔ ¬ c) (hk : (if c then f1 else f2) = F) (hg : (c → g1) ∧ (¬ c → g2)) (h1 : c → g1 → f1 = F → ra d mi e L st' A js Q) (h2 : ¬ c → g2 → f2 = F → ra d mi t L st' A js Q) : ra d mi pc L st A js Q := by
  by_cases h : c
  · refine ra.s (fun S => (hst S).trans ?_) (h1 h (hg.1 h) (by rw [if_pos h] at hk; exact hk))
    rw [if_neg (fun z => hc.mp z h)]
  · refine ra.s (fun S => (hst S).trans ?_) (h2 h (hg.2 h) (by rw [if_neg h] at hk; exact hk))
    rw [if_pos (hc.mpr h)]
/-- a branch that is decided -/
theorem ra.bt {d mi pc : Nat} {L : xm_L} {st : List xm_V} {A : y_A} {js : List y_J} {Q : Option xm_V → y_A → List y_J → Prop} {c : Prop} {cd : Jvm.ClassFile.Cond} {x y : Int32} (t e : Nat) {st' : List xm_V} (hst : ∀ S, xm_step (xm_P mi pc) L st S = some (.inl (if xm_cmp cd x y = true then t else e, L, st', S))) (hc : xm_cmp cd x y = true ↔ c) (h : c) (k : ra d mi t L st' A js Q) : ra d mi pc L st A js Q := by
  refine ra.s (fun S => (hst S).trans ?_) k
  rw [if_pos (hc.mpr h)]
theorem ra.bf {d mi pc : Nat} {L : xm_L} {st : List xm_V} {A : y_A} {js : List y_J} {Q : Option xm_V → y_A → List y_J → Prop} {c : Prop} {cd : Jvm.ClassFile.Cond} {x y : Int32} (t e : Nat) {st' : List xm_V} (hst : ∀ S, xm_step (xm_P mi pc) L st S = some (.inl (if xm_cmp cd x y = true then t else e, L, st', S))) (hc : xm_cmp cd x y = true ↔ c) (h : ¬ c) (k : ra d mi e L st' A js Q) : ra d mi pc L st A js Q := by
  refine ra.s (fun S => (hst S).trans ?_) k
  rw [if_neg (fun z => h (hc.mp z))]
def y_sw (x : Int32) (d : Nat) : Int → List Int → Nat
  | _, [] => d
  | lo, o :: os => if x = Int32.ofInt lo then o.toNat else y_sw x d (lo + 1) os
theorem y_sw_eq (x : Int32) (d : Int) : ∀ (os : List Int) (lo : Int), 0 ≤ lo → lo + os.length ≤ 1000 → (if x.toInt < lo ∨ lo + os.length - 1 < x.toInt then d.toNat else (os.getD (x.toInt - lo).toNat 0).toNat) = y_sw x d.toNat lo os := by
  intro os
  induction os with
  | nil =>
    intro lo _ _
    rw [if_pos (by simp only [List.length_nil]; omega)]
    rfl
  | cons o os ih =>
    intro lo h0 h1
    simp only [List.length_cons] at h1 ⊢
    unfold y_sw
    have e := ih (lo + 1) (by omega) (by omega)
    have ho : (Int32.ofInt lo).toInt = lo := Int32.toInt_ofInt_of_le (by omega) (by omega)
    by_cases h : x = Int32.ofInt lo
    · rw [if_pos h, if_neg (by rw [h, ho]; omega), h, ho, Int.sub_self]
      rfl
    · rw [if_neg h, ← e]
      have hne : x.toInt ≠ lo := fun z => h (by rw [← z, Int32.ofInt_toInt])
      by_cases hb : x.toInt < lo ∨ lo + ((os.length + 1 : Nat) : Int) - 1 < x.toInt
      · rw [if_pos hb, if_pos (by omega)]
      · rw [if_neg hb, if_neg (by omega)]
        rw [show (x.toInt - lo).toNat = (x.toInt - (lo + 1)).toNat + 1 by omega]
        rfl
theorem ra.ts {d mi pc : Nat} {L : xm_L} {st : List xm_V} {A : y_A} {js : List y_J} {Q : Option xm_V → y_A → List y_J → Prop} {df hi : Int} {offs : Array Int} {nx : Nat} {x : Int32} (hp : xm_P mi pc = (.tableswitch df 0 hi offs, nx)) (hh : (decide (hi = (offs.toList.length : Int) - 1) && decide (offs.toList.length ≤ 1000)) = true) (k : ra d mi (y_sw x df.toNat 0 offs.toList) L st A js Q) : ra d mi pc L (.inl x :: st) A js Q := by
  simp only [Bool.and_eq_true, decide_eq_true_eq] at hh
  refine ra.s (fun S => ?_) k
  rw [hp, ← y_sw_eq x df offs.toList 0 (Int.le_refl _) (by omega)]
  have e : offs.getD (x.toInt - 0).toNat 0 = offs.toList.getD (x.toInt - 0).toNat 0 := by
    simp [Array.getD_eq_getD_getElem?, List.getD_eq_getElem?_getD]
  show some _ = _
  rw [show (0 : Int) + (offs.toList.length : Int) - 1 = hi by omega, ← e]
theorem ra.bw {d mi : Nat} {L : xm_L} {st : List xm_V} {A : y_A} {js : List y_J} {Q : Option xm_V → y_A → List y_J → Prop} {β : Type} {F f1 f2 : β} {g1 g2 : Prop} {x : Int32} {df : Nat} {lo o : Int} {os : List Int} (v : Int32) (hv : Int32.ofInt lo = v) (hk : (if x = v then f1 else f2) = F) (hg : (x = v → g1) ∧ (¬ x = v → g2)) (h1 : x = v → g1 → f1 = F → ra d mi o.toNat L st A js Q) (h2 : ¬ x = v → g2 → f2 = F → ra d mi (y_sw x df (lo + 1) os) L st A js Q) : ra d mi (y_sw x df lo (o :: os)) L st A js Q := by
  unfold y_sw
  rw [hv]
  by_cases h : x = v
  · rw [if_pos h] at hk ⊢
    exact h1 h (hg.1 h) hk
  · rw [if_neg h] at hk ⊢
    exact h2 h (hg.2 h) hk
/-- the goals: a number and nothing changed; nothing told; a number and a change -/
def y_P (f : Int32) (A0 : y_A) (js0 : List y_J) : Option xm_V → y_A → List y_J → Prop := fun r A js => r = some (.inl f) ∧ A = A0 ∧ js = js0
def y_V (F : y_A × List y_J) : Option xm_V → y_A → List y_J → Prop := fun r A js => r = none ∧ A = F.1 ∧ js = F.2
def y_I (F : Int32 × y_A × List y_J) : Option xm_V → y_A → List y_J → Prop := fun r A js => r = some (.inl F.1) ∧ A = F.2.1 ∧ js = F.2.2
theorem ra.cP {d mi pc : Nat} {L : xm_L} {st : List xm_V} {A : y_A} {js : List y_J} {Q : Option xm_V → y_A → List y_J → Prop} {m : Nat} {as : List xm_V} {nx : Nat} {L' : xm_L} {st' : List xm_V} {f : Int32} (h : ∀ S, xm_step (xm_P mi pc) L st S = some (.inr (.inr (m, as, nx, L', st')))) (hc : rc d m as A js (y_P f A js)) (k : ra (d + 1) mi nx L' (.inl f :: st') A js Q) : ra (d + 1) mi pc L st A js Q := by
  refine ra.call h (ra.mono hc ?_)
  rintro r A' js' ⟨rfl, rfl, rfl⟩
  exact k
theorem ra.cV {d mi pc : Nat} {L : xm_L} {st : List xm_V} {A : y_A} {js : List y_J} {Q : Option xm_V → y_A → List y_J → Prop} {m : Nat} {as : List xm_V} {nx : Nat} {L' : xm_L} {st' : List xm_V} {F : y_A × List y_J} (h : ∀ S, xm_step (xm_P mi pc) L st S = some (.inr (.inr (m, as, nx, L', st')))) (hc : rc d m as A js (y_V F)) (k : ra (d + 1) mi nx L' st' F.1 F.2 Q) : ra (d + 1) mi pc L st A js Q := by
  refine ra.call h (ra.mono hc ?_)
  rintro r A' js' ⟨rfl, rfl, rfl⟩
  exact k
theorem ra.cI {d mi pc : Nat} {L : xm_L} {st : List xm_V} {A : y_A} {js : List y_J} {Q : Option xm_V → y_A → List y_J → Prop} {m : Nat} {as : List xm_V} {nx : Nat} {L' : xm_L} {st' : List xm_V} {F : Int32 × y_A × List y_J} (h : ∀ S, xm_step (xm_P mi pc) L st S = some (.inr (.inr (m, as, nx, L', st')))) (hc : rc d m as A js (y_I F)) (k : ra (d + 1) mi nx L' (.inl F.1 :: st') F.2.1 F.2.2 Q) : ra (d + 1) mi pc L st A js Q := by
  refine ra.call h (ra.mono hc ?_)
  rintro r A' js' ⟨rfl, rfl, rfl⟩
  exact k
theorem y_same (A : y_A) (x i : Nat) (v : Int32) : xm_u2 A x i v x i = v := if_pos ⟨rfl, rfl⟩
end
