/-! ===== THE CLASS: rules for its instructions, over the store ===== -/
section
abbrev xo (c : Nat) (t : Option Nat) : Option (Nat × Nat) := t.map (fun k => (c, k))
/-- the lists of the works lie where they lie -/
def xk_C (S : xm_S) : Prop := ∀ j, j < 12 → xm_r S 0 0 j = some j
theorem xi_si {S : xm_S} {c k j : Nat} {x : Int32} {p q r : Nat} (h : ¬ (p = c ∧ r = j)) : xm_i (xm_si S c k j x) p q r = xm_i S p q r := if_neg (fun z => h ⟨z.1, z.2.2⟩)
theorem xi_same {S : xm_S} {c k j : Nat} {x : Int32} : xm_i (xm_si S c k j x) c k j = x := if_pos ⟨rfl, rfl, rfl⟩
theorem xr_sr {S : xm_S} {c k j : Nat} {x : Option Nat} {p q r : Nat} (h : ¬ (p = c ∧ r = j)) : xm_r (xm_sr S c k j x) p q r = xm_r S p q r := if_neg (fun z => h ⟨z.1, z.2.2⟩)
theorem xr_same {S : xm_S} {c k j : Nat} {x : Option Nat} : xm_r (xm_sr S c k j x) c k j = x := if_pos ⟨rfl, rfl, rfl⟩
theorem xi_room {S : xm_S} {k : Nat} : xm_i (xm_room k S) = xm_i S := by
  unfold xm_room
  split
  · rfl
  · split <;> rfl
theorem xr_room {S : xm_S} {k : Nat} : xm_r (xm_room k S) = xm_r S := by
  unfold xm_room
  split
  · rfl
  · split <;> rfl
theorem xi_push {S : xm_S} {k : Nat} {x : Nat × Nat} {p q r : Nat} : xm_i (xm_push k x S) p q r = xm_i S p q r := congrFun (congrFun (congrFun (xi_room (S := S) (k := k)) p) q) r
theorem xr_push {S : xm_S} {k : Nat} {x : Nat × Nat} {p q r : Nat} : xm_r (xm_push k x S) p q r = xm_r S p q r := congrFun (congrFun (congrFun (xr_room (S := S) (k := k)) p) q) r
theorem xi_mk {S : xm_S} {c N : Nat} {p q r : Nat} (h : p ≠ c) : xm_i (xm_mk c N S) p q r = xm_i S p q r := if_neg (fun z => h z.1)
theorem xr_mk {S : xm_S} {c N : Nat} {p q r : Nat} (h : p ≠ c) : xm_r (xm_mk c N S) p q r = xm_r S p q r := if_neg (fun z => h z.1)
theorem xw.fi {d mi pc : Nat} {L : xm_L} {st : List xm_V} {S : xm_S} {Q : Option xm_V → xm_S → Prop} {c k j ty nx : Nat} {v : Int32} (hp : xm_P mi pc = (.getfield ((c * 256 + j) * 32 + ty), nx)) (hj : (decide (j < 256) && decide (ty < 2)) = true) (hv : xm_i S c k j = v) (K : xw d mi nx L (.inl v :: st) S Q) : xw d mi pc L (.inr (some (c, k)) :: st) S Q := by
  simp only [Bool.and_eq_true, decide_eq_true_eq] at hj
  refine xw.s ?_ K
  rw [hp]
  show xm_getf ((c * 256 + j) * 32 + ty) nx L (.inr (some (c, k)) :: st) S = _
  unfold xm_getf
  show (if _ then _ else _) = _
  rw [if_pos (by omega), if_pos (by omega), show ((c * 256 + j) * 32 + ty) / 32 % 256 = j by omega, hv]
theorem xw.fr {d mi pc : Nat} {L : xm_L} {st : List xm_V} {S : xm_S} {Q : Option xm_V → xm_S → Prop} {c k j e nx : Nat} {t : Option Nat} (hp : xm_P mi pc = (.getfield ((c * 256 + j) * 32 + (e + 2)), nx)) (hj : (decide (j < 256) && decide (e < 30)) = true) (hv : xm_r S c k j = t) (K : xw d mi nx L (.inr (xo e t) :: st) S Q) : xw d mi pc L (.inr (some (c, k)) :: st) S Q := by
  simp only [Bool.and_eq_true, decide_eq_true_eq] at hj
  refine xw.s ?_ K
  rw [hp]
  show xm_getf ((c * 256 + j) * 32 + (e + 2)) nx L (.inr (some (c, k)) :: st) S = _
  unfold xm_getf
  show (if _ then _ else _) = _
  rw [if_pos (by omega), if_neg (by omega), show ((c * 256 + j) * 32 + (e + 2)) / 32 % 256 = j by omega, hv, show ((c * 256 + j) * 32 + (e + 2)) % 32 - 2 = e by omega]
  cases t <;> rfl
theorem xw.fp {d mi pc : Nat} {L : xm_L} {st : List xm_V} {S : xm_S} {Q : Option xm_V → xm_S → Prop} {c k j ty nx : Nat} {v : Int32} (hp : xm_P mi pc = (.putfield ((c * 256 + j) * 32 + ty), nx)) (hj : (decide (j < 256) && decide (ty < 2)) = true) (hz : ty = 0 ∨ ty = 1 ∧ (v = 0 ∨ v = 1)) (K : xw d mi nx L st (xm_si S c k j v) Q) : xw d mi pc L (.inl v :: .inr (some (c, k)) :: st) S Q := by
  simp only [Bool.and_eq_true, decide_eq_true_eq] at hj
  refine xw.s ?_ K
  rw [hp]
  show xm_putf ((c * 256 + j) * 32 + ty) nx L (.inl v :: .inr (some (c, k)) :: st) S = _
  unfold xm_putf
  have hz' : ((c * 256 + j) * 32 + ty) % 32 = 0 ∨ ((c * 256 + j) * 32 + ty) % 32 = 1 ∧ (v = 0 ∨ v = 1) := by
    rcases hz with hz | hz
    · left; omega
    · right; exact ⟨by omega, hz.2⟩
  show (if _ then _ else _) = _
  rw [if_pos ⟨by omega, hz'⟩, show ((c * 256 + j) * 32 + ty) / 32 % 256 = j by omega]
theorem xw.fq {d mi pc : Nat} {L : xm_L} {st : List xm_V} {S : xm_S} {Q : Option xm_V → xm_S → Prop} {c k j e nx : Nat} {t : Option Nat} (hp : xm_P mi pc = (.putfield ((c * 256 + j) * 32 + (e + 2)), nx)) (hj : (decide (j < 256) && decide (e < 30)) = true) (K : xw d mi nx L st (xm_sr S c k j t) Q) : xw d mi pc L (.inr (xo e t) :: .inr (some (c, k)) :: st) S Q := by
  simp only [Bool.and_eq_true, decide_eq_true_eq] at hj
  refine xw.s ?_ K
  rw [hp]
  show xm_putf ((c * 256 + j) * 32 + (e + 2)) nx L (.inr (xo e t) :: .inr (some (c, k)) :: st) S = _
  cases t with
  | none =>
    show (if _ then _ else _) = _
    rw [if_pos ⟨by omega, by omega⟩, show ((c * 256 + j) * 32 + (e + 2)) / 32 % 256 = j by omega]
  | some q =>
    show (if _ then _ else _) = _
    rw [if_pos ⟨by omega, by omega⟩, show ((c * 256 + j) * 32 + (e + 2)) / 32 % 256 = j by omega]
theorem xw.b {d mi pc : Nat} {L : xm_L} {st : List xm_V} {S : xm_S} {Q : Option xm_V → xm_S → Prop} {c : Prop} {W1 W2 : Prop} {cd : Jvm.ClassFile.Cond} {x y : Int32} (t e : Nat) {st' : List xm_V} (hst : xm_step (xm_P mi pc) L st S = some (.inl (if xm_cmp cd x y = true then t else e, L, st', S))) (hc : xm_cmp cd x y = true ↔ c) (h : (c → W1) ∧ (¬ c → W2)) (h1 : c → W1 → xw d mi t L st' S Q) (h2 : ¬ c → W2 → xw d mi e L st' S Q) : xw d mi pc L st S Q := by
  by_cases hcc : c
  · refine xw.s (hst.trans ?_) (h1 hcc (h.1 hcc))
    rw [if_pos (hc.mpr hcc)]
  · refine xw.s (hst.trans ?_) (h2 hcc (h.2 hcc))
    rw [if_neg (fun z => hcc (hc.mp z))]
theorem xw.bn {d mi pc : Nat} {L : xm_L} {st : List xm_V} {S : xm_S} {Q : Option xm_V → xm_S → Prop} {c : Prop} {W1 W2 : Prop} {cd : Jvm.ClassFile.Cond} {x y : Int32} (t e : Nat) {st' : List xm_V} (hst : xm_step (xm_P mi pc) L st S = some (.inl (if xm_cmp cd x y = true then t else e, L, st', S))) (hc : xm_cmp cd x y = true ↔ ¬ c) (h : (c → W1) ∧ (¬ c → W2)) (h1 : c → W1 → xw d mi e L st' S Q) (h2 : ¬ c → W2 → xw d mi t L st' S Q) : xw d mi pc L st S Q := by
  by_cases hcc : c
  · refine xw.s (hst.trans ?_) (h1 hcc (h.1 hcc))
    rw [if_neg (fun z => hc.mp z hcc)]
  · refine xw.s (hst.trans ?_) (h2 hcc (h.2 hcc))
    rw [if_pos (hc.mpr hcc)]
theorem xw.bt {d mi pc : Nat} {L : xm_L} {st : List xm_V} {S : xm_S} {Q : Option xm_V → xm_S → Prop} {c : Prop} {cd : Jvm.ClassFile.Cond} {x y : Int32} (t e : Nat) {st' : List xm_V} (hst : xm_step (xm_P mi pc) L st S = some (.inl (if xm_cmp cd x y = true then t else e, L, st', S))) (hc : xm_cmp cd x y = true ↔ c) (h : c) (k : xw d mi t L st' S Q) : xw d mi pc L st S Q := by
  refine xw.s (hst.trans ?_) k
  rw [if_pos (hc.mpr h)]
theorem xw.bf {d mi pc : Nat} {L : xm_L} {st : List xm_V} {S : xm_S} {Q : Option xm_V → xm_S → Prop} {c : Prop} {cd : Jvm.ClassFile.Cond} {x y : Int32} (t e : Nat) {st' : List xm_V} (hst : xm_step (xm_P mi pc) L st S = some (.inl (if xm_cmp cd x y = true then t else e, L, st', S))) (hc : xm_cmp cd x y = true ↔ c) (h : ¬ c) (k : xw d mi e L st' S Q) : xw d mi pc L st S Q := by
  refine xw.s (hst.trans ?_) k
  rw [if_neg (fun z => h (hc.mp z))]
theorem xw.bw {d mi : Nat} {L : xm_L} {st : List xm_V} {S : xm_S} {Q : Option xm_V → xm_S → Prop} {W1 W2 : Prop} {x : Int32} {df : Nat} {lo o : Int} {os : List Int} (v : Int32) (hv : Int32.ofInt lo = v) (h : (x = v → W1) ∧ (¬ x = v → W2)) (h1 : x = v → W1 → xw d mi o.toNat L st S Q) (h2 : ¬ x = v → W2 → xw d mi (y_sw x df (lo + 1) os) L st S Q) : xw d mi (y_sw x df lo (o :: os)) L st S Q := by
  unfold y_sw
  rw [hv]
  by_cases hx : x = v
  · rw [if_pos hx]
    exact h1 hx (h.1 hx)
  · rw [if_neg hx]
    exact h2 hx (h.2 hx)
theorem xw.ts1 {d mi pc : Nat} {L : xm_L} {st : List xm_V} {S : xm_S} {Q : Option xm_V → xm_S → Prop} {df hi lo : Int} {offs : Array Int} {nx : Nat} {x : Int32} (hp : xm_P mi pc = (.tableswitch df lo hi offs, nx)) (hh : (decide (hi = lo + (offs.toList.length : Int) - 1) && (decide (offs.toList.length ≤ 900) && decide (0 ≤ lo ∧ lo ≤ 50))) = true) (k : xw d mi (y_sw x df.toNat lo offs.toList) L st S Q) : xw d mi pc L (.inl x :: st) S Q := by
  simp only [Bool.and_eq_true, decide_eq_true_eq] at hh
  refine xw.s ?_ k
  rw [hp, ← y_sw_eq x df offs.toList lo hh.2.2.1 (by omega)]
  have e : offs.getD (x.toInt - lo).toNat 0 = offs.toList.getD (x.toInt - lo).toNat 0 := by
    simp [Array.getD_eq_getD_getElem?, List.getD_eq_getElem?_getD]
  show some (Sum.inl (if x.toInt < lo ∨ hi < x.toInt then df.toNat else (offs.getD (x.toInt - lo).toNat 0).toNat, _)) = _
  rw [← hh.1, e]
theorem xw.nul {d mi pc : Nat} {L : xm_L} {st : List xm_V} {S : xm_S} {Q : Option xm_V → xm_S → Prop} {c : Nat} {o : Option Nat} {t nx : Nat} {t' : Int} (hp : xm_P mi pc = (.ifnull t', nx)) (ht : t'.toNat = t) (K : xw d mi (if o = none then t else nx) L st S Q) : xw d mi pc L (.inr (xo c o) :: st) S Q := by
  refine xw.s ?_ K
  rw [hp]
  cases o with
  | none => show some _ = _; rw [← ht]; rfl
  | some k => rfl
theorem xw.nnul {d mi pc : Nat} {L : xm_L} {st : List xm_V} {S : xm_S} {Q : Option xm_V → xm_S → Prop} {c : Nat} {o : Option Nat} {t nx : Nat} {t' : Int} (hp : xm_P mi pc = (.ifnonnull t', nx)) (ht : t'.toNat = t) (K : xw d mi (if o = none then nx else t) L st S Q) : xw d mi pc L (.inr (xo c o) :: st) S Q := by
  refine xw.s ?_ K
  rw [hp]
  cases o with
  | none => rfl
  | some k => show some _ = _; rw [← ht]; rfl
theorem xo_inj {c : Nat} {a b : Option Nat} : xo c a = xo c b ↔ a = b := by
  cases a <;> cases b <;> simp
theorem xo_k12 {c : Nat} (hc : c < 12) (a : Option Nat) : xm_k12 (xo c a) = true := by
  cases a with
  | none => rfl
  | some k => exact decide_eq_true hc
theorem xw.ae {d mi pc : Nat} {L : xm_L} {st : List xm_V} {S : xm_S} {Q : Option xm_V → xm_S → Prop} {c : Nat} {a b : Option Nat} {t nx : Nat} {t' : Int} {cn W1 W2 : Prop} (hp : xm_P mi pc = (.if_acmp .eq t', nx)) (ht : t'.toNat = t) (hc : c < 12) (hn : a = b ↔ cn) (h : (cn → W1) ∧ (¬ cn → W2)) (h1 : cn → W1 → xw d mi t L st S Q) (h2 : ¬ cn → W2 → xw d mi nx L st S Q) : xw d mi pc L (.inr (xo c b) :: .inr (xo c a) :: st) S Q := by
  by_cases hcn : cn
  · refine xw.s ?_ (h1 hcn (h.1 hcn))
    rw [hp]
    show (if _ then _ else _) = _
    rw [if_pos ⟨xo_k12 hc a, xo_k12 hc b⟩, if_pos (xo_inj.mpr (hn.mpr hcn)), ht]
  · refine xw.s ?_ (h2 hcn (h.2 hcn))
    rw [hp]
    show (if _ then _ else _) = _
    rw [if_pos ⟨xo_k12 hc a, xo_k12 hc b⟩, if_neg (fun z => hcn (hn.mp (xo_inj.mp z)))]
theorem xw.an {d mi pc : Nat} {L : xm_L} {st : List xm_V} {S : xm_S} {Q : Option xm_V → xm_S → Prop} {c : Nat} {a b : Option Nat} {t nx : Nat} {t' : Int} {cn W1 W2 : Prop} (hp : xm_P mi pc = (.if_acmp .ne t', nx)) (ht : t'.toNat = t) (hc : c < 12) (hn : a = b ↔ cn) (h : (cn → W1) ∧ (¬ cn → W2)) (h1 : cn → W1 → xw d mi nx L st S Q) (h2 : ¬ cn → W2 → xw d mi t L st S Q) : xw d mi pc L (.inr (xo c b) :: .inr (xo c a) :: st) S Q := by
  by_cases hcn : cn
  · refine xw.s ?_ (h1 hcn (h.1 hcn))
    rw [hp]
    show (if _ then _ else _) = _
    rw [if_pos ⟨xo_k12 hc a, xo_k12 hc b⟩, if_pos (xo_inj.mpr (hn.mpr hcn))]
  · refine xw.s ?_ (h2 hcn (h.2 hcn))
    rw [hp]
    show (if _ then _ else _) = _
    rw [if_pos ⟨xo_k12 hc a, xo_k12 hc b⟩, if_neg (fun z => hcn (hn.mp (xo_inj.mp z))), ht]
theorem xw.get {d mi pc : Nat} {L : xm_L} {st : List xm_V} {S : xm_S} {Q : Option xm_V → xm_S → Prop} {k nx : Nat} {i : Int32} {p : Nat × Nat} (hp : xm_P mi pc = (.invokevirtual 256544, nx)) (hs : st.length ≤ 6) (hi : y_in i (xm_n S 1 k)) (hv : xm_l S k (y_ix i) = p) (K : xw d mi nx L (.inr (some p) :: st) S Q) : xw d mi pc L (.inl i :: .inr (some (12, k)) :: st) S Q := by
  refine xw.s ?_ K
  rw [hp]
  show xm_call 256544 nx L (.inl i :: .inr (some (12, k)) :: st) S = _
  unfold xm_call
  rw [if_pos (by omega), if_pos (by simp only [List.length_cons]; omega)]
  show (xm_ix i (xm_n S 1 k)).bind _ = _
  rw [hi.ix, ← hv]
  rfl
theorem xw.rem {d mi pc : Nat} {L : xm_L} {st : List xm_V} {S : xm_S} {Q : Option xm_V → xm_S → Prop} {k nx : Nat} {i : Int32} {p : Nat × Nat} (hp : xm_P mi pc = (.invokevirtual 257056, nx)) (hs : st.length ≤ 6) (hi : y_in i (xm_n S 1 k)) (hv : xm_l S k (y_ix i) = p) (K : xw d mi nx L (.inr (some p) :: st) (xm_drop k (y_ix i) S) Q) : xw d mi pc L (.inl i :: .inr (some (12, k)) :: st) S Q := by
  refine xw.s ?_ K
  rw [hp]
  show xm_call 257056 nx L (.inl i :: .inr (some (12, k)) :: st) S = _
  unfold xm_call
  rw [if_pos (by omega), if_pos (by simp only [List.length_cons]; omega)]
  show (xm_ix i (xm_n S 1 k)).bind _ = _
  rw [hi.ix, ← hv]
  rfl
theorem xw.lset {d mi pc : Nat} {L : xm_L} {st : List xm_V} {S : xm_S} {Q : Option xm_V → xm_S → Prop} {c e k nx : Nat} {i : Int32} {p : Nat × Nat} (hp : xm_P mi pc = (.invokevirtual 256816, nx)) (hs : st.length ≤ 5) (hc : c < 12) (hi : y_in i (xm_n S 1 k)) (hv : xm_l S k (y_ix i) = p) (K : xw d mi nx L (.inr (some p) :: st) (xm_sl S k (y_ix i) (c, e)) Q) : xw d mi pc L (.inr (some (c, e)) :: .inl i :: .inr (some (12, k)) :: st) S Q := by
  refine xw.s ?_ K
  rw [hp]
  show xm_call 256816 nx L (.inr (some (c, e)) :: .inl i :: .inr (some (12, k)) :: st) S = _
  unfold xm_call
  rw [if_pos (by omega), if_pos (by simp only [List.length_cons]; omega)]
  show (if 12 ≤ c then none else (xm_ix i (xm_n S 1 k)).bind _) = _
  rw [if_neg (by omega), hi.ix, ← hv]
  rfl
theorem xw.ladd {d mi pc : Nat} {L : xm_L} {st : List xm_V} {S : xm_S} {Q : Option xm_V → xm_S → Prop} {c e k nx : Nat} (hp : xm_P mi pc = (.invokevirtual 256288, nx)) (hs : st.length ≤ 6) (hc : c < 12) (h0 : xm_n S 2 k ≠ 0) (h1 : xm_n S 1 k < 100000) (K : xw d mi nx L (.inl 1 :: st) (xm_push k (c, e) S) Q) : xw d mi pc L (.inr (some (c, e)) :: .inr (some (12, k)) :: st) S Q := by
  refine xw.s ?_ K
  rw [hp]
  show xm_call 256288 nx L (.inr (some (c, e)) :: .inr (some (12, k)) :: st) S = _
  unfold xm_call
  rw [if_pos (by omega), if_pos (by simp only [List.length_cons]; omega)]
  show (if xm_n S 2 k = 0 ∨ 100000 ≤ xm_n S 1 k ∨ 12 ≤ c then none else _) = _
  rw [if_neg (by omega)]
theorem xw.lsz {d mi pc : Nat} {L : xm_L} {st : List xm_V} {S : xm_S} {Q : Option xm_V → xm_S → Prop} {k nx n : Nat} (hp : xm_P mi pc = (.invokevirtual 257296, nx)) (hs : st.length ≤ 6) (hv : xm_n S 1 k = n) (K : xw d mi nx L (.inl (nI n) :: st) S Q) : xw d mi pc L (.inr (some (12, k)) :: st) S Q := by
  refine xw.s ?_ K
  rw [hp]
  show xm_call 257296 nx L (.inr (some (12, k)) :: st) S = _
  unfold xm_call
  rw [if_pos (by omega), if_pos (by simp only [List.length_cons]; omega), ← hv]
  rfl
theorem xw.lem {d mi pc : Nat} {L : xm_L} {st : List xm_V} {S : xm_S} {Q : Option xm_V → xm_S → Prop} {k nx n : Nat} {W1 W2 : Prop} (hp : xm_P mi pc = (.invokevirtual 257552, nx)) (hs : st.length ≤ 6) (hv : xm_n S 1 k = n) (h : (n = 0 → W1) ∧ (¬ n = 0 → W2)) (h1 : n = 0 → W1 → xw d mi nx L (.inl 1 :: st) S Q) (h2 : ¬ n = 0 → W2 → xw d mi nx L (.inl 0 :: st) S Q) : xw d mi pc L (.inr (some (12, k)) :: st) S Q := by
  by_cases hn : n = 0
  · refine xw.s ?_ (h1 hn (h.1 hn))
    rw [hp]
    show xm_call 257552 nx L (.inr (some (12, k)) :: st) S = _
    unfold xm_call
    rw [if_pos (by omega), if_pos (by simp only [List.length_cons]; omega)]
    show some (Sum.inl (nx, L, .inl (if xm_n S 1 k = 0 then 1 else 0) :: st, S)) = _
    rw [hv, if_pos hn]
  · refine xw.s ?_ (h2 hn (h.2 hn))
    rw [hp]
    show xm_call 257552 nx L (.inr (some (12, k)) :: st) S = _
    unfold xm_call
    rw [if_pos (by omega), if_pos (by simp only [List.length_cons]; omega)]
    show some (Sum.inl (nx, L, .inl (if xm_n S 1 k = 0 then 1 else 0) :: st, S)) = _
    rw [hv, if_neg hn]
theorem xw.lini {d mi pc : Nat} {L : xm_L} {st : List xm_V} {S : xm_S} {Q : Option xm_V → xm_S → Prop} {k nx : Nat} (hp : xm_P mi pc = (.invokespecial 256016, nx)) (hs : st.length ≤ 6) (h0 : xm_n S 2 k = 0) (K : xw d mi nx L st (xm_sn S 2 k 1) Q) : xw d mi pc L (.inr (some (12, k)) :: st) S Q := by
  refine xw.s ?_ K
  rw [hp]
  show xm_call 256016 nx L (.inr (some (12, k)) :: st) S = _
  unfold xm_call
  rw [if_pos (by omega), if_pos (by simp only [List.length_cons]; omega)]
  show (if xm_n S 2 k = 0 then _ else none) = _
  rw [if_pos h0]
theorem xw.ald {d mi pc : Nat} {L : xm_L} {st : List xm_V} {S : xm_S} {Q : Option xm_V → xm_S → Prop} {k nx : Nat} {i : Int32} {t : Option Nat} (hp : xm_P mi pc = (.aaload, nx)) (hi : y_in i (xm_n S 25 k)) (hv : xm_r S 15 k (y_ix i) = t) (K : xw d mi nx L (.inr (xo 2 t) :: st) S Q) : xw d mi pc L (.inl i :: .inr (some (15, k)) :: st) S Q := by
  refine xw.s ?_ K
  rw [hp]
  show xm_ald nx L (.inl i :: .inr (some (15, k)) :: st) S = _
  unfold xm_ald
  show (if _ then _ else _) = _
  rw [if_pos rfl, hi.ix]
  show some _ = _
  rw [hv]
  cases t <;> rfl
theorem xw.ast {d mi pc : Nat} {L : xm_L} {st : List xm_V} {S : xm_S} {Q : Option xm_V → xm_S → Prop} {k e nx : Nat} {i : Int32} (hp : xm_P mi pc = (.aastore, nx)) (hi : y_in i (xm_n S 25 k)) (K : xw d mi nx L st (xm_sr S 15 k (y_ix i) (some e)) Q) : xw d mi pc L (.inr (some (2, e)) :: .inl i :: .inr (some (15, k)) :: st) S Q := by
  refine xw.s ?_ K
  rw [hp]
  show xm_ast nx L (.inr (some (2, e)) :: .inl i :: .inr (some (15, k)) :: st) S = _
  unfold xm_ast
  show (if _ then _ else _) = _
  rw [if_pos ⟨rfl, rfl⟩, hi.ix]
  rfl
theorem xw.ild {d mi pc : Nat} {L : xm_L} {st : List xm_V} {S : xm_S} {Q : Option xm_V → xm_S → Prop} {c k nx : Nat} {i v : Int32} (hp : xm_P mi pc = (.iaload, nx)) (hc : c = 13 ∨ c = 16 ∨ c = 17) (hi : y_in i (xm_n S (10 + c) k)) (hv : xm_i S c k (y_ix i) = v) (K : xw d mi nx L (.inl v :: st) S Q) : xw d mi pc L (.inl i :: .inr (some (c, k)) :: st) S Q := by
  refine xw.s ?_ K
  rw [hp]
  show xm_ild nx L (.inl i :: .inr (some (c, k)) :: st) S = _
  unfold xm_ild
  show (if _ then _ else _) = _
  rw [if_pos hc, hi.ix]
  show some _ = _
  rw [hv]
theorem xw.aln {d mi pc : Nat} {L : xm_L} {st : List xm_V} {S : xm_S} {Q : Option xm_V → xm_S → Prop} {c k nx n : Nat} (hp : xm_P mi pc = (.arraylength, nx)) (hc : 13 ≤ c ∧ c ≤ 17) (hv : xm_n S (10 + c) k = n) (K : xw d mi nx L (.inl (nI n) :: st) S Q) : xw d mi pc L (.inr (some (c, k)) :: st) S Q := by
  refine xw.s ?_ K
  rw [hp]
  show xm_alen nx L (.inr (some (c, k)) :: st) S = _
  unfold xm_alen
  show (if _ then _ else _) = _
  rw [if_pos hc, hv]
theorem xw.retz {d mi pc : Nat} {L : xm_L} {S : xm_S} {Q : Option xm_V → xm_S → Prop} {x : Int32} {nx : Nat} (hp : xm_P mi pc = (.freturn, nx)) (h : x = 0 ∨ x = 1) (k : Q (some (.inl x)) S) : xw d mi pc L [.inl x] S Q := by
  refine xw.ret ?_ k
  rw [hp]
  exact if_pos h
theorem xw.lk {d mi pc : Nat} {L : xm_L} {st : List xm_V} {S : xm_S} {Q : Option xm_V → xm_S → Prop} {df o0 o1 : Int} {nx : Nat} {x : Int32} (hp : xm_P mi pc = (.lookupswitch df #[((0 : Int), o0), ((1 : Int), o1)], nx)) (k : xw d mi (y_sw x df.toNat 0 [o0, o1]) L st S Q) : xw d mi pc L (.inl x :: st) S Q := by
  refine xw.s ?_ k
  rw [hp]
  show some (Sum.inl ((if (0 : Int) = x.toInt then o0 else if (1 : Int) = x.toInt then o1 else df).toNat, L, st, S)) = _
  have e0 : (0 : Int) = x.toInt ↔ x = Int32.ofInt 0 := ⟨fun z => by rw [z, Int32.ofInt_toInt], fun z => by rw [z]; rfl⟩
  have e1 : (1 : Int) = x.toInt ↔ x = Int32.ofInt (0 + 1) := ⟨fun z => by rw [show (0 : Int) + 1 = 1 from rfl, z, Int32.ofInt_toInt], fun z => by rw [z]; rfl⟩
  unfold y_sw
  unfold y_sw
  unfold y_sw
  by_cases h0 : x = Int32.ofInt 0
  · rw [if_pos (e0.mpr h0), if_pos h0]
  · rw [if_neg (fun z => h0 (e0.mp z)), if_neg h0]
    by_cases h1 : x = Int32.ofInt (0 + 1)
    · rw [if_pos (e1.mpr h1), if_pos h1]
    · rw [if_neg (fun z => h1 (e1.mp z)), if_neg h1]
end
