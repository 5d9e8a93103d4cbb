/-! ===== runs of the abstract machine, and what every run keeps ===== -/
def xm_exec (P : Nat → Nat → Instr × Nat) (ML : Nat → Nat) : Nat → Nat → Nat → Nat → xm_L → List xm_V → xm_S → Option (Option xm_V × xm_S)
  | 0, _, _, _, _, _, _ => none
  | n + 1, d, mi, pc, L, st, S =>
    match xm_step (P mi pc) L st S with
    | some (.inl q) => xm_exec P ML n d mi q.1 q.2.1 q.2.2.1 q.2.2.2
    | some (.inr (.inl r)) => some (r, S)
    | some (.inr (.inr q)) => if d = 0 then none else (xm_exec P ML n (d - 1) q.1 0 (q.2.1.map some ++ List.replicate (ML q.1 - q.2.1.length) none) [] S).bind fun z => xm_exec P ML n d mi q.2.2.1 q.2.2.2.1 (z.1.toList ++ q.2.2.2.2) z.2
    | none => none
theorem xm_exec_s (P : Nat → Nat → Instr × Nat) (ML : Nat → Nat) (n d mi pc : Nat) (L : xm_L) (st : List xm_V) (S : xm_S) : xm_exec P ML (n + 1) d mi pc L st S =
    match xm_step (P mi pc) L st S with
    | some (.inl q) => xm_exec P ML n d mi q.1 q.2.1 q.2.2.1 q.2.2.2
    | some (.inr (.inl r)) => some (r, S)
    | some (.inr (.inr q)) => if d = 0 then none else (xm_exec P ML n (d - 1) q.1 0 (q.2.1.map some ++ List.replicate (ML q.1 - q.2.1.length) none) [] S).bind fun z => xm_exec P ML n d mi q.2.2.1 q.2.2.2.1 (z.1.toList ++ q.2.2.2.2) z.2
    | none => none := rfl
theorem xm_mono (P : Nat → Nat → Instr × Nat) (ML : Nat → Nat) : ∀ (n d mi pc : Nat) (L : xm_L) (st : List xm_V) (S : xm_S) (x : Option xm_V × xm_S), xm_exec P ML n d mi pc L st S = some x → xm_exec P ML (n + 1) d mi pc L st S = some x := by
  intro n
  induction n with
  | zero => intro d mi pc L st S x h; simp [xm_exec] at h
  | succ n ih =>
    intro d mi pc L st S x h
    rw [xm_exec_s] at h
    rw [xm_exec_s]
    rcases hq : xm_step (P mi pc) L st S with _ | (q | (r | q))
    · rw [hq] at h
      cases h
    · rw [hq] at h
      exact ih _ _ _ _ _ _ _ h
    · rw [hq] at h
      exact h
    · rw [hq] at h
      replace h : (if d = 0 then none else (xm_exec P ML n (d - 1) q.1 0 (q.2.1.map some ++ List.replicate (ML q.1 - q.2.1.length) none) [] S).bind fun z => xm_exec P ML n d mi q.2.2.1 q.2.2.2.1 (z.1.toList ++ q.2.2.2.2) z.2) = some x := h
      show (if d = 0 then none else (xm_exec P ML (n + 1) (d - 1) q.1 0 (q.2.1.map some ++ List.replicate (ML q.1 - q.2.1.length) none) [] S).bind fun z => xm_exec P ML (n + 1) d mi q.2.2.1 q.2.2.2.1 (z.1.toList ++ q.2.2.2.2) z.2) = some x
      by_cases hd : d = 0
      · rw [if_pos hd] at h
        cases h
      · rw [if_neg hd] at h ⊢
        obtain ⟨z, hz, h2⟩ := Option.bind_eq_some_iff.mp h
        rw [ih _ _ _ _ _ _ _ hz]
        exact ih _ _ _ _ _ _ _ h2
theorem xm_mono_le (P : Nat → Nat → Instr × Nat) (ML : Nat → Nat) {n k d mi pc : Nat} {L : xm_L} {st : List xm_V} {S : xm_S} {x : Option xm_V × xm_S} (hk : n ≤ k) (h : xm_exec P ML n d mi pc L st S = some x) : xm_exec P ML k d mi pc L st S = some x := by
  obtain ⟨j, rfl⟩ := Nat.exists_eq_add_of_le hk
  induction j with
  | zero => exact h
  | succ j ih => exact xm_mono P ML _ _ _ _ _ _ _ _ (ih (Nat.le_add_right n j))
/-- what was made stays, counts grow -/
def xm_le (S S' : xm_S) : Prop := (∀ c, xm_n S 0 c ≤ xm_n S' 0 c) ∧ ∀ c k, c ≤ 17 → k < xm_n S 0 c → xm_a S' c k = xm_a S c k
theorem xm_le.rf (S : xm_S) : xm_le S S := ⟨fun _ => Nat.le_refl _, fun _ _ _ _ => rfl⟩
theorem xm_le.tr {S T U : xm_S} (h : xm_le S T) (g : xm_le T U) : xm_le S U := ⟨fun c => Nat.le_trans (h.1 c) (g.1 c), fun c k hc hk => (g.2 c k hc (Nat.lt_of_lt_of_le hk (h.1 c))).trans (h.2 c k hc hk)⟩
theorem xm_le.si (S : xm_S) (c k j : Nat) (x : Int32) : xm_le S (xm_si S c k j x) := xm_le.rf _
theorem xm_le.sr (S : xm_S) (c k j : Nat) (x : Option Nat) : xm_le S (xm_sr S c k j x) := xm_le.rf _
theorem xm_le.sl (S : xm_S) (k i : Nat) (x : Nat × Nat) : xm_le S (xm_sl S k i x) := xm_le.rf _
theorem xm_le.sn (S : xm_S) (a b x : Nat) (h : a ≠ 0) : xm_le S (xm_sn S a b x) := by
  refine ⟨fun c => ?_, fun _ _ _ _ => rfl⟩
  show _ ≤ xm_u2 _ a b x 0 c
  unfold xm_u2
  rw [if_neg (fun z => h z.1.symm)]
  exact Nat.le_refl _
theorem xm_le.mk (S : xm_S) (c N : Nat) : xm_le S (xm_mk c N S) := by
  refine ⟨fun q => ?_, fun p q hp hq => ?_⟩
  · show xm_n S 0 q ≤ if (0:Nat) = 0 ∧ q = c then _ else _
    split
    · rename_i h; rw [h.2]; omega
    · split
      · rename_i h; rw [h.2]; omega
      · split
        · rename_i h; rw [h.2]; omega
        · split
          · rename_i h; exact absurd h.1 (by omega)
          · split
            · rename_i h; exact absurd h.2.1 (by omega)
            · exact Nat.le_refl _
  · show xm_u2 _ c _ _ p q = _
    unfold xm_u2
    rw [if_neg]
    intro z
    rw [z.1, z.2] at hq
    exact Nat.lt_irrefl _ hq
theorem xm_le.grow (S : xm_S) (k N : Nat) : xm_le S (xm_grow k N S) := by
  refine ⟨fun q => ?_, fun p q hp hq => ?_⟩
  · show xm_n S 0 q ≤ if (0:Nat) = 2 ∧ q = k then N else if (0:Nat) = 0 ∧ q = 100 then xm_n S 0 100 + 1 else if (0:Nat) = 0 ∧ q = 101 then xm_n S 0 101 + N else xm_n S 0 q
    rw [if_neg (by omega)]
    split
    · rename_i h; rw [h.2]; omega
    · split
      · rename_i h; rw [h.2]; omega
      · exact Nat.le_refl _
  · show xm_u2 _ 18 _ _ p q = _
    unfold xm_u2
    rw [if_neg (by omega)]
theorem xm_le.room (S : xm_S) (k : Nat) : xm_le S (xm_room k S) := by
  unfold xm_room
  split
  · exact xm_le.grow _ _ _
  · split
    · exact xm_le.grow _ _ _
    · exact xm_le.rf _
theorem xm_le.push (S : xm_S) (k : Nat) (x : Nat × Nat) : xm_le S (xm_push k x S) := (xm_le.room S k).tr ((xm_le.sl _ _ _ _).tr (xm_le.sn _ _ _ _ (by decide)))
theorem xm_le.drop (S : xm_S) (k i : Nat) : xm_le S (xm_drop k i S) := (xm_le.rf S : xm_le S (S.1, S.2.1, _, S.2.2.2)).tr (xm_le.sn _ _ _ _ (by decide))
