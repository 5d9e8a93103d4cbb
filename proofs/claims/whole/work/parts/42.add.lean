/-! ===== a job more ===== -/
section
theorem y_S.si {S : xm_S} {x : Nat} (j : Nat) (i : Int32) (hx : x < 110) {a b : Nat} (h : y_k x = (a, b, (y_k x).2.2)) : y_S S (xm_si S a b j i) := by
  have e := y_S.put S hx j i
  rw [show (y_k x).1 = a by rw [h], show (y_k x).2.1 = b by rw [h]] at e
  exact e
/-- reading a number of the object, in the store -/
theorem xw.gi {d mi pc : Nat} {L : xm_L} {st : List xm_V} {S : xm_S} {Q : Option xm_V → xm_S → Prop} (x : Nat) {nx : Nat} {v : Int32} (hp : xm_P mi pc = (.getfield (90112 + 32 * x), nx)) (hx : (decide (x < 110) && decide ((y_k x).1 = 11 ∧ (y_k x).2.1 = 0)) = true) (hv : y_m S x 0 = v) (k : xw d mi nx L (.inl v :: st) S Q) : xw d mi pc L (.inr (some (11, 0)) :: st) S Q := by
  simp only [Bool.and_eq_true, decide_eq_true_eq] at hx
  obtain ⟨a, c⟩ := hx
  refine xw.s ?_ k
  rw [hp]
  show xm_getf (90112 + 32 * x) nx L (.inr (some (11, 0)) :: st) S = _
  unfold xm_getf
  unfold y_m at hv
  rw [c.1, c.2, if_pos rfl] at hv
  show (if _ then _ else _) = _
  rw [if_pos (by omega), if_pos (by omega), show (90112 + 32 * x) / 32 % 256 = x by omega, hv]
theorem xw.ga {d mi pc : Nat} {L : xm_L} {st : List xm_V} {S : xm_S} {Q : Option xm_V → xm_S → Prop} (x : Nat) {nx c i : Nat} (hS : y_W S) (hp : xm_P mi pc = (.getfield (90112 + 32 * x + (c + 2)), nx)) (hx : (decide (x < 110) && (decide (c = 13 ∨ c = 14) && decide ((y_k x).1 = c ∧ (y_k x).2.1 = i))) = true) (k : xw d mi nx L (.inr (some (c, i)) :: st) S Q) : xw d mi pc L (.inr (some (11, 0)) :: st) S Q := by
  simp only [Bool.and_eq_true, decide_eq_true_eq] at hx
  obtain ⟨a, b, e1, e2⟩ := hx
  refine xw.s ?_ k
  rw [hp]
  show xm_getf (90112 + 32 * x + (c + 2)) nx L (.inr (some (11, 0)) :: st) S = _
  unfold xm_getf
  have e := (hS x a (by omega)).1
  show (if _ then _ else _) = _
  rw [if_pos (by omega), if_neg (by omega), show (90112 + 32 * x + (c + 2)) / 32 % 256 = x by omega, e, show (90112 + 32 * x + (c + 2)) % 32 - 2 = c by omega, e2]
  rfl
theorem xw.ldi {d mi pc : Nat} {L : xm_L} {st : List xm_V} {S : xm_S} {Q : Option xm_V → xm_S → Prop} (x n : Nat) {nx a : Nat} {i v : Int32} (hS : y_W S) (hp : xm_P mi pc = (.iaload, nx)) (hx : (decide (x < 110) && decide (y_k x = (13, a, n))) = true) (hi : y_in i n) (hv : y_m S x (y_ix i) = v) (k : xw d mi nx L (.inl v :: st) S Q) : xw d mi pc L (.inl i :: .inr (some (13, a)) :: st) S Q := by
  simp only [Bool.and_eq_true, decide_eq_true_eq] at hx
  obtain ⟨a1, c⟩ := hx
  refine xw.s ?_ k
  rw [hp]
  show xm_ild nx L (.inl i :: .inr (some (13, a)) :: st) S = _
  unfold xm_ild
  have e2 := (hS x a1 (by rw [c]; simp)).2
  unfold y_m at hv
  rw [c] at hv e2
  replace hv : xm_i S 13 a (y_ix i) = v := hv
  replace e2 : xm_n S 23 a = n := e2
  show (if _ then _ else _) = _
  rw [if_pos (Or.inl rfl)]
  show (xm_ix i (xm_n S 23 a)).bind _ = _
  rw [e2, hi.ix]
  show some _ = _
  rw [hv]
theorem xw.sti {d mi pc : Nat} {L : xm_L} {st : List xm_V} {S : xm_S} {Q : Option xm_V → xm_S → Prop} (x n : Nat) {nx a : Nat} {i v : Int32} (hS : y_W S) (hp : xm_P mi pc = (.iastore, nx)) (hx : (decide (x < 110) && decide (y_k x = (13, a, n))) = true) (hi : y_in i n) (k : xw d mi nx L st (xm_si S 13 a (y_ix i) v) Q) : xw d mi pc L (.inl v :: .inl i :: .inr (some (13, a)) :: st) S Q := by
  simp only [Bool.and_eq_true, decide_eq_true_eq] at hx
  obtain ⟨a1, c⟩ := hx
  refine xw.s ?_ k
  rw [hp]
  show xm_ist nx L (.inl v :: .inl i :: .inr (some (13, a)) :: st) S = _
  unfold xm_ist
  have e2 := (hS x a1 (by rw [c]; simp)).2
  rw [c] at e2
  replace e2 : xm_n S 23 a = n := e2
  show (if _ then _ else _) = _
  rw [if_pos rfl, e2, hi.ix]
  rfl
theorem xw.pi {d mi pc : Nat} {L : xm_L} {st : List xm_V} {S : xm_S} {Q : Option xm_V → xm_S → Prop} (x : Nat) {nx : Nat} {v : Int32} (hp : xm_P mi pc = (.putfield (90112 + 32 * x), nx)) (hx : x < 110) (k : xw d mi nx L st (xm_si S 11 0 x v) Q) : xw d mi pc L (.inl v :: .inr (some (11, 0)) :: st) S Q := by
  refine xw.s ?_ k
  rw [hp]
  show xm_putf (90112 + 32 * x) nx L (.inl v :: .inr (some (11, 0)) :: st) S = _
  unfold xm_putf
  show (if _ then _ else _) = _
  rw [if_pos ⟨by omega, by omega⟩, show (90112 + 32 * x) / 32 % 256 = x by omega]
theorem y_m_13 {S : xm_S} (x : Nat) {a n z k j : Nat} {i : Int32} (hx : (decide (x < 110) && decide (y_k x = (13, a, n))) = true) (hz : z < 110) (hk : (y_k z).1 ≠ 11 ∨ k = 0) : y_m (xm_si S 13 a j i) z k = if z = x ∧ k = j then i else y_m S z k := by
  simp only [Bool.and_eq_true, decide_eq_true_eq] at hx
  have h13 : (y_k x).1 ≠ 11 := by rw [hx.2]; simp
  have e := y_m_i (S := S) (i := i) hx.1 hz hk j (Or.inl h13)
  rw [if_neg h13, hx.2] at e
  exact e
theorem y_m_88 {S : xm_S} {z k : Nat} {i : Int32} (hz : z < 110) (hk : (y_k z).1 ≠ 11 ∨ k = 0) : y_m (xm_si S 11 0 88 i) z k = if z = 88 ∧ k = 0 then i else y_m S z k := y_m_i (S := S) (i := i) (x := 88) (by decide) hz hk 0 (Or.inr rfl)
theorem y_in_nI {k n : Nat} (h : k < n) (hn : n < 2 ^ 31) : y_in (nI k) n := ⟨nI_pos' (by omega), by unfold y_ix; rw [nI_clamp (by omega)]; exact h⟩
theorem y_ix_nI {k : Nat} (h : k < 2 ^ 31) : y_ix (nI k) = k := nI_clamp h
theorem rh_add {d : Nat} {w a b c e : Int32} {A : y_A} {js : List y_J} (h : js.length < 20000) : rc d 131 [.inr (some (11, 0)), .inl w, .inl a, .inl b, .inl c, .inl e] A js (y_V (A, (w, a, b, c, e) :: js)) := by
  intro S hS
  obtain ⟨hW, hA, hn, hl, hq⟩ := hS
  have hi : y_in (nI js.length) 20000 := y_in_nI h (by decide)
  have hx : y_ix (nI js.length) = js.length := y_ix_nI (by omega)
  show xw d 131 0 [some (.inr (some (11, 0))), some (.inl w), some (.inl a), some (.inl b), some (.inl c), some (.inl e)] [] S _
  refine xw.s (pc' := 1) (st' := [.inr (some (11, 0))]) rfl ?_
  refine xw.ga 83 (nx := 4) (c := 13) (i := 63) hW rfl rfl ?_
  refine xw.s (pc' := 5) (st' := [.inr (some (11, 0)), .inr (some (13, 63))]) rfl ?_
  refine xw.gi 88 (nx := 8) (v := (nI js.length)) rfl rfl (by exact hn) ?_
  refine xw.s (pc' := 9) (st' := [.inl w, .inl (nI js.length), .inr (some (13, 63))]) rfl ?_
  refine xw.sti 83 20000 (nx := 10) hW rfl rfl hi ?_
  refine xw.s (pc' := 11) (st' := [.inr (some (11, 0))]) rfl ?_
  refine xw.ga 84 (nx := 14) (c := 13) (i := 64) hW rfl rfl ?_
  refine xw.s (pc' := 15) (st' := [.inr (some (11, 0)), .inr (some (13, 64))]) rfl ?_
  refine xw.gi 88 (nx := 18) (v := (nI js.length)) rfl rfl (by rw [y_m_13 83 (n := 20000) rfl (by decide) (Or.inr rfl), if_neg (by omega)]; exact hn) ?_
  refine xw.s (pc' := 19) (st' := [.inl a, .inl (nI js.length), .inr (some (13, 64))]) rfl ?_
  refine xw.sti 84 20000 (nx := 20) hW rfl rfl hi ?_
  refine xw.s (pc' := 21) (st' := [.inr (some (11, 0))]) rfl ?_
  refine xw.ga 85 (nx := 24) (c := 13) (i := 65) hW rfl rfl ?_
  refine xw.s (pc' := 25) (st' := [.inr (some (11, 0)), .inr (some (13, 65))]) rfl ?_
  refine xw.gi 88 (nx := 28) (v := (nI js.length)) rfl rfl (by rw [y_m_13 84 (n := 20000) rfl (by decide) (Or.inr rfl), if_neg (by omega)]; rw [y_m_13 83 (n := 20000) rfl (by decide) (Or.inr rfl), if_neg (by omega)]; exact hn) ?_
  refine xw.s (pc' := 29) (st' := [.inl b, .inl (nI js.length), .inr (some (13, 65))]) rfl ?_
  refine xw.sti 85 20000 (nx := 30) hW rfl rfl hi ?_
  refine xw.s (pc' := 31) (st' := [.inr (some (11, 0))]) rfl ?_
  refine xw.ga 86 (nx := 34) (c := 13) (i := 66) hW rfl rfl ?_
  refine xw.s (pc' := 35) (st' := [.inr (some (11, 0)), .inr (some (13, 66))]) rfl ?_
  refine xw.gi 88 (nx := 38) (v := (nI js.length)) rfl rfl (by rw [y_m_13 85 (n := 20000) rfl (by decide) (Or.inr rfl), if_neg (by omega)]; rw [y_m_13 84 (n := 20000) rfl (by decide) (Or.inr rfl), if_neg (by omega)]; rw [y_m_13 83 (n := 20000) rfl (by decide) (Or.inr rfl), if_neg (by omega)]; exact hn) ?_
  refine xw.s (pc' := 40) (st' := [.inl c, .inl (nI js.length), .inr (some (13, 66))]) rfl ?_
  refine xw.sti 86 20000 (nx := 41) hW rfl rfl hi ?_
  refine xw.s (pc' := 42) (st' := [.inr (some (11, 0))]) rfl ?_
  refine xw.ga 87 (nx := 45) (c := 13) (i := 67) hW rfl rfl ?_
  refine xw.s (pc' := 46) (st' := [.inr (some (11, 0)), .inr (some (13, 67))]) rfl ?_
  refine xw.gi 88 (nx := 49) (v := (nI js.length)) rfl rfl (by rw [y_m_13 86 (n := 20000) rfl (by decide) (Or.inr rfl), if_neg (by omega)]; rw [y_m_13 85 (n := 20000) rfl (by decide) (Or.inr rfl), if_neg (by omega)]; rw [y_m_13 84 (n := 20000) rfl (by decide) (Or.inr rfl), if_neg (by omega)]; rw [y_m_13 83 (n := 20000) rfl (by decide) (Or.inr rfl), if_neg (by omega)]; exact hn) ?_
  refine xw.s (pc' := 51) (st' := [.inl e, .inl (nI js.length), .inr (some (13, 67))]) rfl ?_
  refine xw.sti 87 20000 (nx := 52) hW rfl rfl hi ?_
  refine xw.s (pc' := 53) (st' := [.inr (some (11, 0))]) rfl ?_
  refine xw.s (pc' := 54) (st' := [.inr (some (11, 0)), .inr (some (11, 0))]) rfl ?_
  refine xw.gi 88 (nx := 57) (v := (nI js.length)) rfl rfl (by rw [y_m_13 87 (n := 20000) rfl (by decide) (Or.inr rfl), if_neg (by omega)]; rw [y_m_13 86 (n := 20000) rfl (by decide) (Or.inr rfl), if_neg (by omega)]; rw [y_m_13 85 (n := 20000) rfl (by decide) (Or.inr rfl), if_neg (by omega)]; rw [y_m_13 84 (n := 20000) rfl (by decide) (Or.inr rfl), if_neg (by omega)]; rw [y_m_13 83 (n := 20000) rfl (by decide) (Or.inr rfl), if_neg (by omega)]; exact hn) ?_
  refine xw.s (pc' := 58) (st' := [.inl (1 : Int32), .inl (nI js.length), .inr (some (11, 0))]) rfl ?_
  refine xw.s (pc' := 59) (st' := [.inl ((nI js.length) + (1 : Int32)), .inr (some (11, 0))]) rfl ?_
  refine xw.pi 88 (nx := 62) rfl (by decide) ?_
  refine xw.ret rfl ?_
  rw [hx]
  refine ⟨?_, A, (w, a, b, c, e) :: js, ⟨hW, ?_, ?_, ?_, ?_⟩, rfl, rfl, rfl⟩
  · refine (y_S.si (x := 83) _ _ (by decide) rfl).tr ((y_S.si (x := 84) _ _ (by decide) rfl).tr ((y_S.si (x := 85) _ _ (by decide) rfl).tr ((y_S.si (x := 86) _ _ (by decide) rfl).tr ((y_S.si (x := 87) _ _ (by decide) rfl).tr (y_S.si (x := 88) _ _ (by decide) rfl)))))
  · intro x hx1 hx8 k hk
    rw [y_m_88 hx1 hk, if_neg (by omega), y_m_13 87 (n := 20000) rfl hx1 hk, if_neg (by omega), y_m_13 86 (n := 20000) rfl hx1 hk, if_neg (by omega), y_m_13 85 (n := 20000) rfl hx1 hk, if_neg (by omega), y_m_13 84 (n := 20000) rfl hx1 hk, if_neg (by omega), y_m_13 83 (n := 20000) rfl hx1 hk, if_neg (by omega)]
    exact hA x hx1 hx8 k hk
  · rw [y_m_88 (by decide) (Or.inr rfl), if_pos ⟨rfl, rfl⟩]
    exact (nI_succ js.length).symm
  · rw [List.length_cons]
    omega
  · have hm : ∀ z k, 83 ≤ z → z ≤ 87 → y_m (xm_si (xm_si (xm_si (xm_si (xm_si (xm_si S 13 63 js.length w) 13 64 js.length a) 13 65 js.length b) 13 66 js.length c) 13 67 js.length e) 11 0 88 (nI js.length + 1)) z k = if k = js.length then (if z = 83 then w else if z = 84 then a else if z = 85 then b else if z = 86 then c else e) else y_m S z k := by
      intro z k h1 h2
      have hk : (y_k z).1 ≠ 11 ∨ k = 0 := Or.inl (by
        have : z = 83 ∨ z = 84 ∨ z = 85 ∨ z = 86 ∨ z = 87 := by omega
        rcases this with rfl | rfl | rfl | rfl | rfl <;> decide)
      have hz : z < 110 := by omega
      rw [y_m_88 hz hk, if_neg (by omega), y_m_13 87 (n := 20000) rfl hz hk, y_m_13 86 (n := 20000) rfl hz hk, y_m_13 85 (n := 20000) rfl hz hk, y_m_13 84 (n := 20000) rfl hz hk, y_m_13 83 (n := 20000) rfl hz hk]
      have : z = 83 ∨ z = 84 ∨ z = 85 ∨ z = 86 ∨ z = 87 := by omega
      rcases this with rfl | rfl | rfl | rfl | rfl <;> simp
    intro k hk
    rw [List.length_cons] at hk
    unfold y_q
    rw [hm 83 k (by decide) (by decide), hm 84 k (by decide) (by decide), hm 85 k (by decide) (by decide), hm 86 k (by decide) (by decide), hm 87 k (by decide) (by decide)]
    rw [List.reverse_cons]
    by_cases hkl : k = js.length
    · subst hkl
      rw [List.getElem?_append_right (by simp)]
      simp
    · rw [List.getElem?_append_left (by simp; omega), hq k (by omega)]
      simp only [if_neg hkl]
      rfl
end
section
theorem ra.retz {d mi pc : Nat} {L : xm_L} {A : y_A} {js : List y_J} {Q : Option xm_V → y_A → List y_J → Prop} {x : Int32} {nx : Nat} (hp : xm_P mi pc = (.freturn, nx)) (h : x = 0 ∨ x = 1) (k : Q (some (.inl x)) A js) : ra d mi pc L [.inl x] A js Q := by
  refine ra.ret (fun S => ?_) k
  rw [hp]
  exact if_pos h
theorem ra.rem {d mi pc : Nat} {L : xm_L} {st : List xm_V} {A : y_A} {js : List y_J} {Q : Option xm_V → y_A → List y_J → Prop} {x y : Int32} {nx : Nat} (hp : xm_P mi pc = (.irem, nx)) (h : ¬ y = 0) (k : ra d mi nx L (.inl (x - x / y * y) :: st) A js Q) : ra d mi pc L (.inl y :: .inl x :: st) A js Q := by
  refine ra.s (fun S => ?_) k
  rw [hp]
  exact if_neg h
end
