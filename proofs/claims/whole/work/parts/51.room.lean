/-! ===== what the class leaves as it is ===== -/
section
def xf_T (S S' : xm_S) : Prop := (∀ c, c = 11 ∨ c = 13 ∨ c = 14 ∨ c = 16 ∨ c = 17 → ∀ k j, xm_i S' c k j = xm_i S c k j) ∧ (∀ k j, xm_r S' 11 k j = xm_r S 11 k j) ∧ ∀ a, a = 23 ∨ a = 24 ∨ a = 26 ∨ a = 27 → ∀ k, xm_n S' a k = xm_n S a k
theorem xf_T.rf (S : xm_S) : xf_T S S := ⟨fun _ _ _ _ => rfl, fun _ _ => rfl, fun _ _ _ => rfl⟩
theorem xf_T.tr (S T U : xm_S) (h : xf_T S T) (g : xf_T T U) : xf_T S U := ⟨fun c hc k j => (g.1 c hc k j).trans (h.1 c hc k j), fun k j => (g.2.1 k j).trans (h.2.1 k j), fun a ha k => (g.2.2 a ha k).trans (h.2.2 a ha k)⟩
def xf_ok (ins : Instr) : Bool := match ins with
  | .putfield f => decide (f / 8192 < 11)
  | .new c => decide (c ≤ 12 ∧ c ≠ 11)
  | .iastore => false
  | .bastore => false
  | .newarray _ => false
  | .invokevirtual j => decide (256000 ≤ j ∨ j / 256 < 112)
  | .invokespecial j => decide (256000 ≤ j ∨ j / 256 < 112)
  | .invokestatic j => decide (256000 ≤ j ∨ j / 256 < 112)
  | _ => true
theorem xf_all : ((List.range 112).all fun mi => (List.range (xm_sz mi)).all fun pc => xf_ok (xm_P mi pc).1) = true := by decide +kernel
theorem xf_at (mi pc : Nat) (h : mi < 112) : xf_ok (xm_P mi pc).1 = true := by
  by_cases hp : pc < xm_sz mi
  · exact List.all_eq_true.mp (List.all_eq_true.mp xf_all mi (List.mem_range.mpr h)) pc (List.mem_range.mpr hp)
  · unfold xm_P
    rw [if_neg (fun z => hp z.2)]
    rfl
theorem xf_si {S : xm_S} {c k j : Nat} {x : Int32} (hc : c < 11) : xf_T S (xm_si S c k j x) := ⟨fun p hp q r => if_neg (fun z => by omega), fun _ _ => rfl, fun _ _ _ => rfl⟩
theorem xf_sr {S : xm_S} {c k j : Nat} {x : Option Nat} (hc : c < 11 ∨ c = 15) : xf_T S (xm_sr S c k j x) := ⟨fun _ _ _ _ => rfl, fun q r => if_neg (fun z => by omega), fun _ _ _ => rfl⟩
theorem xf_mk {S : xm_S} {c N : Nat} (hc : (c ≤ 12 ∧ c ≠ 11) ∨ c = 15) : xf_T S (xm_mk c N S) := by
  refine ⟨fun p hp q r => if_neg (fun z => by omega), fun q r => if_neg (fun z => by omega), fun a ha q => ?_⟩
  show (if a = 0 ∧ q = c then _ else if a = 0 ∧ q = 100 then _ else if a = 0 ∧ q = 101 then _ else if a = 10 + c ∧ q = xm_n S 0 c then _ else if c = 12 ∧ (a = 1 ∨ a = 2) ∧ q = xm_n S 0 12 then _ else _) = _
  rw [if_neg (by omega), if_neg (by omega), if_neg (by omega), if_neg (by omega), if_neg (by omega)]
theorem xf_grow {S : xm_S} {k N : Nat} : xf_T S (xm_grow k N S) := by
  refine ⟨fun _ _ _ _ => rfl, fun _ _ => rfl, fun a ha q => ?_⟩
  show (if a = 2 ∧ q = k then _ else if a = 0 ∧ q = 100 then _ else if a = 0 ∧ q = 101 then _ else _) = _
  rw [if_neg (by omega), if_neg (by omega), if_neg (by omega)]
theorem xf_room {S : xm_S} {k : Nat} : xf_T S (xm_room k S) := by
  unfold xm_room
  split
  · exact xf_grow
  · split
    · exact xf_grow
    · exact xf_T.rf S
theorem xf_sn {S : xm_S} {a b x : Nat} (ha : a = 1 ∨ a = 2) : xf_T S (xm_sn S a b x) := ⟨fun _ _ _ _ => rfl, fun _ _ => rfl, fun p hp q => if_neg (fun z => by omega)⟩
theorem xf_step {ins : Instr} {S S1 : xm_S} (ho : xf_ok ins = true) (h : xm_ch ins S S1) : xf_T S S1 := by
  have hL : xm_chL S S1 → xf_T S S1 := by
    rintro (⟨k, -, -, rfl⟩ | ⟨k, x, -, -, rfl⟩ | ⟨k, j, x, rfl⟩ | ⟨k, j, rfl⟩)
    · exact xf_sn (Or.inr rfl)
    · exact xf_T.tr _ _ _ (xf_room (S := S) (k := k)) (xf_sn (S := xm_sl (xm_room k S) k (xm_n S 1 k) x) (Or.inl rfl))
    · exact xf_T.rf S
    · exact xf_sn (S := (S.1, S.2.1, (fun p q => if p = k ∧ j ≤ q then xm_l S k (q + 1) else xm_l S p q), S.2.2.2)) (Or.inl rfl)
  rcases h with rfl | h
  · exact xf_T.rf _
  · cases ins with
    | putfield f =>
      have hf : f / 8192 < 11 := of_decide_eq_true ho
      rcases h with ⟨k, x, rfl⟩ | ⟨k, x, rfl⟩
      · exact xf_si hf
      · exact xf_sr (Or.inl hf)
    | new c =>
      replace h : S1 = xm_mk c (xm_nf c) S := h
      subst h
      exact xf_mk (Or.inl (of_decide_eq_true ho))
    | newarray t => cases ho
    | anewarray j =>
      obtain ⟨N, -, rfl⟩ := h
      exact xf_mk (Or.inr rfl)
    | iastore => cases ho
    | bastore => cases ho
    | aastore =>
      obtain ⟨k, j, x, rfl⟩ := h
      exact xf_sr (Or.inr rfl)
    | invokevirtual j => exact hL h
    | invokespecial j => exact hL h
    | invokestatic j => exact hL h
    | _ => exact h.elim
theorem xm_Pw : ∀ mi pc, xm_wf (xm_P mi pc).1 = true := xm_P_wf xm_ckall
theorem xf_run {n d mi pc : Nat} {L : xm_L} {st : List xm_V} {S : xm_S} {x : Option xm_V × xm_S} (hm : mi < 112) (hS : xm_al S) (hL : xm_alL S L) (hst : xm_alst S st) (h : xm_exec xm_P xm_ML n d mi pc L st S = some x) : xf_T S x.2 := by
  refine xm_exec_fr (T := xf_T) xf_T.rf xf_T.tr xm_Pw (fun m => m < 112) (fun mi pc hm S S1 hc => xf_step (xf_at mi pc hm) hc) (fun mi pc j hm hq hj => ?_) n d mi pc L st S x hm hS hL hst h
  have ho := xf_at mi pc hm
  generalize (xm_P mi pc).1 = ins at hq ho
  cases ins <;> first | (cases hq; done) | skip
  all_goals
    cases hq
    have := of_decide_eq_true ho
    omega
end
/-! ===== the room: cells and slots against objects and the lists' capacities ===== -/
section
def xs (f : Nat → Nat) : Nat → Nat
  | 0 => 0
  | n + 1 => xs f n + f n
theorem xs_congr {f g : Nat → Nat} : ∀ {n : Nat}, (∀ i, i < n → g i = f i) → xs g n = xs f n
  | 0, _ => rfl
  | n + 1, h => by
    show xs g n + g n = xs f n + f n
    rw [xs_congr (n := n) (fun i hi => h i (by omega)), h n (by omega)]
theorem xs_upd {f g : Nat → Nat} {k : Nat} : ∀ {n : Nat}, k < n → (∀ i, i ≠ k → g i = f i) → xs g n + f k = xs f n + g k
  | 0, h, _ => absurd h (by omega)
  | n + 1, h, e => by
    show xs g n + g n + f k = xs f n + f n + g k
    by_cases hk : k = n
    · subst hk
      rw [xs_congr (n := k) (fun i hi => e i (by omega))]
      omega
    · have := xs_upd (f := f) (g := g) (n := n) (by omega) e
      rw [e n (by omega)]
      omega
def xR (b t : Nat) (S : xm_S) : Prop := xm_n S 0 100 ≤ b + xs (fun c => xm_n S 0 c) 16 + xs (fun k => xm_n S 2 k) (xm_n S 0 12) ∧ xm_n S 0 101 ≤ t + 110 * xs (fun c => xm_n S 0 c) 16 + 4 * xs (fun k => xm_n S 2 k) (xm_n S 0 12) + 20000 * (xm_n S 0 13 + xm_n S 0 14 + xm_n S 0 15)
theorem xR_sn {b t : Nat} {S : xm_S} {k : Nat} (h0 : k < xm_n S 0 12) (h2 : xm_n S 2 k = 0) (h : xR b t S) : xR b t (xm_sn S 2 k 1) := by
  have e := xs_upd (f := fun q => xm_n S 2 q) (g := fun q => xm_n (xm_sn S 2 k 1) 2 q) (k := k) (n := xm_n S 0 12) h0 (fun i hi => if_neg (fun z => hi z.2))
  have e1 : xm_n (xm_sn S 2 k 1) 2 k = 1 := if_pos ⟨rfl, rfl⟩
  simp only [e1, h2] at e
  obtain ⟨a, c⟩ := h
  exact ⟨by show xm_n S 0 100 ≤ b + xs (fun c => xm_n S 0 c) 16 + xs (fun q => xm_n (xm_sn S 2 k 1) 2 q) (xm_n S 0 12); omega, by show xm_n S 0 101 ≤ t + 110 * xs (fun c => xm_n S 0 c) 16 + 4 * xs (fun q => xm_n (xm_sn S 2 k 1) 2 q) (xm_n S 0 12) + 20000 * (xm_n S 0 13 + xm_n S 0 14 + xm_n S 0 15); omega⟩
theorem xR_grow {b t : Nat} {S : xm_S} {k N : Nat} (h0 : k < xm_n S 0 12) (hN : xm_n S 2 k < N) (hN4 : N + 4 * xm_n S 2 k ≤ 4 * N) (h : xR b t S) : xR b t (xm_grow k N S) := by
  have qq : ∀ a j, xm_n (xm_grow k N S) a j = if a = 2 ∧ j = k then N else if a = 0 ∧ j = 100 then xm_n S 0 100 + 1 else if a = 0 ∧ j = 101 then xm_n S 0 101 + N else xm_n S a j := fun _ _ => rfl
  have q : ∀ c, c < 100 → xm_n (xm_grow k N S) 0 c = xm_n S 0 c := fun c hc => by
    rw [qq, if_neg (by omega), if_neg (by omega), if_neg (by omega)]
  have q2 : ∀ j, xm_n (xm_grow k N S) 2 j = if j = k then N else xm_n S 2 j := fun j => by
    rw [qq]
    by_cases hj : j = k
    · rw [if_pos ⟨rfl, hj⟩, if_pos hj]
    · rw [if_neg (fun z => hj z.2), if_neg (by omega), if_neg (by omega), if_neg hj]
  have e := xs_upd (f := fun j => xm_n S 2 j) (g := fun j => xm_n (xm_grow k N S) 2 j) (k := k) (n := xm_n S 0 12) h0 (fun i hi => by simp only [q2]; rw [if_neg hi])
  have e1 : xm_n (xm_grow k N S) 2 k = N := by rw [q2, if_pos rfl]
  simp only [e1] at e
  have s16 : xs (fun c => xm_n (xm_grow k N S) 0 c) 16 = xs (fun c => xm_n S 0 c) 16 := xs_congr (fun i hi => q i (by omega))
  have e100 : xm_n (xm_grow k N S) 0 100 = xm_n S 0 100 + 1 := by
    rw [qq, if_neg (by omega), if_pos ⟨rfl, rfl⟩]
  have e101 : xm_n (xm_grow k N S) 0 101 = xm_n S 0 101 + N := by
    rw [qq, if_neg (by omega), if_neg (by omega), if_pos ⟨rfl, rfl⟩]
  obtain ⟨a, c⟩ := h
  unfold xR
  rw [s16, e100, e101, q 12 (by decide), q 13 (by decide), q 14 (by decide), q 15 (by decide)]
  exact ⟨by omega, by omega⟩
theorem xR_push {b t : Nat} {S : xm_S} {k : Nat} {x : Nat × Nat} (h0 : k < xm_n S 0 12) (h2 : xm_n S 2 k ≠ 0) (h : xR b t S) : xR b t (xm_push k x S) := by
  show xR b t (xm_room k S)
  unfold xm_room
  split
  · rename_i e
    exact xR_grow h0 (by omega) (by omega) h
  · split
    · exact xR_grow h0 (by omega) (by omega) h
    · exact h
theorem xR_mk {b t : Nat} {S : xm_S} {c N : Nat} (hc : c < 16) (hN : N ≤ 110 ∨ (13 ≤ c ∧ N ≤ 20000)) (h : xR b t S) : xR b t (xm_mk c N S) := by
  have q : ∀ a j, xm_n (xm_mk c N S) a j = if a = 0 ∧ j = c then xm_n S 0 c + 1 else if a = 0 ∧ j = 100 then xm_n S 0 100 + 1 else if a = 0 ∧ j = 101 then xm_n S 0 101 + N else if a = 10 + c ∧ j = xm_n S 0 c then N else if c = 12 ∧ (a = 1 ∨ a = 2) ∧ j = xm_n S 0 12 then 0 else xm_n S a j := fun _ _ => rfl
  have q0 : ∀ j, j < 100 → xm_n (xm_mk c N S) 0 j = if j = c then xm_n S 0 c + 1 else xm_n S 0 j := fun j hj => by
    rw [q]
    by_cases hjc : j = c
    · rw [if_pos ⟨rfl, hjc⟩, if_pos hjc]
    · rw [if_neg (by omega), if_neg (by omega), if_neg (by omega), if_neg (by omega), if_neg (by omega), if_neg hjc]
  have e := xs_upd (f := fun j => xm_n S 0 j) (g := fun j => if j = c then xm_n S 0 c + 1 else xm_n S 0 j) (k := c) (n := 16) hc (fun i hi => if_neg hi)
  have s16 : xs (fun j => xm_n (xm_mk c N S) 0 j) 16 = xs (fun j => if j = c then xm_n S 0 c + 1 else xm_n S 0 j) 16 := xs_congr (fun i hi => q0 i (by omega))
  have e100 : xm_n (xm_mk c N S) 0 100 = xm_n S 0 100 + 1 := by rw [q, if_neg (by omega), if_pos ⟨rfl, rfl⟩]
  have e101 : xm_n (xm_mk c N S) 0 101 = xm_n S 0 101 + N := by rw [q, if_neg (by omega), if_neg (by omega), if_pos ⟨rfl, rfl⟩]
  have s2 : xs (fun k => xm_n (xm_mk c N S) 2 k) (xm_n (xm_mk c N S) 0 12) = xs (fun k => xm_n S 2 k) (xm_n S 0 12) := by
    by_cases h12 : c = 12
    · rw [q0 12 (by decide), if_pos h12.symm]
      subst h12
      show xs (fun k => xm_n (xm_mk 12 N S) 2 k) (xm_n S 0 12) + xm_n (xm_mk 12 N S) 2 (xm_n S 0 12) = _
      rw [q 2 (xm_n S 0 12), if_neg (by omega), if_neg (by omega), if_neg (by omega), if_neg (by omega), if_pos ⟨rfl, Or.inr rfl, rfl⟩, Nat.add_zero]
      refine xs_congr (fun i hi => ?_)
      simp only [q]
      rw [if_neg (by omega), if_neg (by omega), if_neg (by omega), if_neg (by omega), if_neg (by omega)]
    · rw [q0 12 (by decide), if_neg (fun z => h12 z.symm)]
      refine xs_congr (fun i hi => ?_)
      simp only [q]
      rw [if_neg (by omega), if_neg (by omega), if_neg (by omega), if_neg (by omega), if_neg (by omega)]
  simp only [if_pos] at e
  obtain ⟨a1, a2⟩ := h
  unfold xR
  rw [s16, s2, e100, e101, q0 13 (by decide), q0 14 (by decide), q0 15 (by decide)]
  refine ⟨by omega, ?_⟩
  have h3 : (if 13 = c then xm_n S 0 c + 1 else xm_n S 0 13) + (if 14 = c then xm_n S 0 c + 1 else xm_n S 0 14) + (if 15 = c then xm_n S 0 c + 1 else xm_n S 0 15) = xm_n S 0 13 + xm_n S 0 14 + xm_n S 0 15 + (if 13 ≤ c then 1 else 0) := by
    by_cases c13 : c = 13
    · subst c13; simp; omega
    · by_cases c14 : c = 14
      · subst c14; simp; omega
      · by_cases c15 : c = 15
        · subst c15; simp; omega
        · rw [if_neg (by omega), if_neg (by omega), if_neg (by omega), if_neg (by omega)]
          rfl
  rw [h3]
  split <;> omega
theorem xR_step {b t : Nat} {ins : Instr} {S S1 : xm_S} (hw : xm_wf ins = true) (h : xm_ch ins S S1) (g : xR b t S) : xR b t S1 := by
  have hL : xm_chL S S1 → xR b t S1 := by
    rintro (⟨k, h0, h2, rfl⟩ | ⟨k, x, h0, h2, rfl⟩ | ⟨k, j, x, rfl⟩ | ⟨k, j, rfl⟩)
    · exact xR_sn h0 h2 g
    · exact xR_push h0 h2 g
    · exact g
    · exact g
  rcases h with rfl | h
  · exact g
  · cases ins with
    | putfield f =>
      rcases h with ⟨k, x, rfl⟩ | ⟨k, x, rfl⟩
      · exact g
      · exact g
    | new c =>
      replace h : S1 = xm_mk c (xm_nf c) S := h
      subst h
      have hc : c ≤ 12 := of_decide_eq_true hw
      refine xR_mk (by omega) (Or.inl ?_) g
      have : ∀ c, c < 13 → xm_nf c ≤ 110 := by decide
      exact this c (by omega)
    | newarray t =>
      obtain ⟨c, N, hc, hN, rfl⟩ := h
      exact xR_mk (by omega) (Or.inr ⟨by omega, hN⟩) g
    | anewarray j =>
      obtain ⟨N, hN, rfl⟩ := h
      exact xR_mk (by omega) (Or.inr ⟨by omega, hN⟩) g
    | iastore => obtain ⟨k, j, x, rfl⟩ := h; exact g
    | bastore => obtain ⟨k, j, x, rfl⟩ := h; exact g
    | aastore => obtain ⟨k, j, x, rfl⟩ := h; exact g
    | invokevirtual j => exact hL h
    | invokespecial j => exact hL h
    | invokestatic j => exact hL h
    | _ => exact h.elim
theorem xR_run {b t n d mi pc : Nat} {L : xm_L} {st : List xm_V} {S : xm_S} {x : Option xm_V × xm_S} (hS : xm_al S) (hL : xm_alL S L) (hst : xm_alst S st) (h : xm_exec xm_P xm_ML n d mi pc L st S = some x) (g : xR b t S) : xR b t x.2 :=
  xm_exec_fr (T := fun S S' => xR b t S → xR b t S') (fun _ z => z) (fun _ _ _ f g z => g (f z)) xm_Pw (fun _ => True) (fun mi pc _ S S1 hc => xR_step (xm_Pw mi pc) hc) (fun _ _ _ _ _ _ => trivial) n d mi pc L st S x trivial hS hL hst h g
end
/-! ===== runs of the class: with what they leave ===== -/
section
theorem xm_A0_al {S : xm_S} {m : Nat} {as : List xm_V} (h : xm_alst S as) : xm_alL S (xm_A0 m as) := fun v hv => by
  rcases List.mem_append.mp hv with hv | hv
  · obtain ⟨w, hw, e⟩ := List.mem_map.mp hv
    cases e
    exact h _ hw
  · exact absurd (List.eq_of_mem_replicate hv) (by simp)
theorem xc.fr {d m : Nat} {as : List xm_V} {S : xm_S} {Q : Option xm_V → xm_S → Prop} (hm : m < 112) (hS : xm_al S) (has : xm_alst S as) (h : xc d m as S Q) : xc d m as S (fun r S' => Q r S' ∧ xf_T S S' ∧ xm_al S' ∧ xm_le S S') := by
  obtain ⟨n, r, S', hx, hq⟩ := h
  have a := xm_exec_al xm_Pw _ _ _ _ _ _ _ _ hS (xm_A0_al has) (xm_alst.nil S) hx
  exact ⟨n, r, S', hx, hq, xf_run hm hS (xm_A0_al has) (xm_alst.nil S) hx, a.2.1, a.1⟩
theorem y_R.fr {S S' : xm_S} {A : y_A} {js : List y_J} (h : y_R S A js) (f : xf_T S S') : y_R S' A js := by
  have hm : ∀ x k, x < 110 → y_m S' x k = y_m S x k := fun x k hx => by
    unfold y_m
    exact f.1 _ (by rcases y_kb x hx with e | e | e <;> rw [e] <;> omega) _ _
  have hq : ∀ k, y_q S' k = y_q S k := fun k => by
    unfold y_q
    rw [hm _ _ (by decide), hm _ _ (by decide), hm _ _ (by decide), hm _ _ (by decide), hm _ _ (by decide)]
  obtain ⟨h1, h2, h3, h4, h5⟩ := h
  refine ⟨fun x hx hk => ⟨(f.2.1 0 x).trans (h1 x hx hk).1, (f.2.2 _ (by rcases y_kb x hx with e | e | e <;> rw [e] <;> first | omega | exact absurd e hk) _).trans (h1 x hx hk).2⟩, fun x hx h8 k hk => (hm x k hx).trans (h2 x hx h8 k hk), (hm 88 0 (by decide)).trans h3, h4, fun k hk => by rw [hq]; exact h5 k hk⟩
end
