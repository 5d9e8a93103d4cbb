/-! ===== every reference that is about speaks of a made object ===== -/
def xm_alv (S : xm_S) (v : xm_V) : Prop := ∀ c k, v = .inr (some (c, k)) → c ≤ 17 ∧ k < xm_n S 0 c
def xm_al (S : xm_S) : Prop := (∀ c k j e, c ≤ 15 → k < xm_n S 0 c → 2 ≤ xm_ty c j → xm_r S c k j = some e → e < xm_n S 0 (xm_ty c j - 2)) ∧ (∀ k i, k < xm_n S 0 12 → i < xm_n S 1 k → (xm_l S k i).1 < 12 ∧ (xm_l S k i).2 < xm_n S 0 (xm_l S k i).1) ∧ 7 ≤ xm_n S 0 16
abbrev xm_alL (S : xm_S) (L : xm_L) : Prop := ∀ v, some v ∈ L → xm_alv S v
abbrev xm_alst (S : xm_S) (st : List xm_V) : Prop := ∀ v, v ∈ st → xm_alv S v
theorem xm_alv.up {S T : xm_S} {v : xm_V} (h : xm_le S T) (a : xm_alv S v) : xm_alv T v := fun c k e => ⟨(a c k e).1, Nat.lt_of_lt_of_le (a c k e).2 (h.1 c)⟩
theorem xm_alv.i (S : xm_S) (x : Int32) : xm_alv S (.inl x) := fun c k h => by cases h
theorem xm_alv.n (S : xm_S) : xm_alv S (.inr none) := fun c k h => by cases h
theorem xm_alv.r {S : xm_S} {c k : Nat} (hc : c ≤ 17) (hk : k < xm_n S 0 c) : xm_alv S (.inr (some (c, k))) := fun c' k' h => by
  cases h
  exact ⟨hc, hk⟩
theorem xm_alv.rf {S : xm_S} {c : Nat} {o : Option Nat} (hc : c ≤ 17) (ho : ∀ k, o = some k → k < xm_n S 0 c) : xm_alv S (xm_rf c o) := by
  cases o with
  | none => exact xm_alv.n S
  | some k => exact xm_alv.r hc (ho k rfl)
theorem xm_alst.nil (S : xm_S) : xm_alst S [] := fun v h => by cases h
theorem xm_alst.cons {S : xm_S} {v : xm_V} {st : List xm_V} (h : xm_alv S v) (g : xm_alst S st) : xm_alst S (v :: st) := fun w hw => by
  rcases List.mem_cons.mp hw with rfl | hw
  · exact h
  · exact g w hw
theorem xm_alst.tl {S : xm_S} {v : xm_V} {st : List xm_V} (g : xm_alst S (v :: st)) : xm_alst S st := fun w hw => g w (List.mem_cons_of_mem _ hw)
theorem xm_alst.hd {S : xm_S} {v : xm_V} {st : List xm_V} (g : xm_alst S (v :: st)) : xm_alv S v := g v List.mem_cons_self
theorem xm_alst.up {S T : xm_S} {st : List xm_V} (h : xm_le S T) (g : xm_alst S st) : xm_alst T st := fun v hv => (g v hv).up h
theorem xm_alL.up {S T : xm_S} {L : xm_L} (h : xm_le S T) (g : xm_alL S L) : xm_alL T L := fun v hv => (g v hv).up h
theorem xm_alL.set {S : xm_S} {L : xm_L} {i : Nat} {v : xm_V} (g : xm_alL S L) (h : xm_alv S v) : xm_alL S (L.set i (some v)) := fun w hw => by
  rcases List.mem_or_eq_of_mem_set hw with hw | hw
  · exact g w hw
  · cases hw
    exact h
theorem xm_al.si {S : xm_S} (h : xm_al S) (c k j : Nat) (x : Int32) : xm_al (xm_si S c k j x) := h
theorem xm_al.sr {S : xm_S} (h : xm_al S) (c k j : Nat) (x : Option Nat) (hx : ∀ e, x = some e → c ≤ 15 → 2 ≤ xm_ty c j → e < xm_n S 0 (xm_ty c j - 2)) : xm_al (xm_sr S c k j x) := by
  refine ⟨fun c' k' j' e hc hk ht he => ?_, h.2⟩
  replace he : xm_u3 S.2.1 c k j x c' k' j' = some e := he
  unfold xm_u3 at he
  split at he
  · rename_i hq
    obtain ⟨rfl, rfl, rfl⟩ := hq
    exact hx e he hc ht
  · exact h.1 c' k' j' e hc hk ht he
theorem xm_al.sn {S : xm_S} (h : xm_al S) (a b x : Nat) (ha : a ≠ 0) (h1 : a ≠ 1) : xm_al (xm_sn S a b x) := by
  have e : ∀ p q, p ≠ a → xm_n (xm_sn S a b x) p q = xm_n S p q := fun p q hp => by
    show xm_u2 _ a b x p q = _
    unfold xm_u2
    rw [if_neg (fun z => hp z.1)]
  refine ⟨fun c k j y hc hk ht hy => ?_, fun k i hk hi => ?_, ?_⟩
  · rw [e _ _ (Ne.symm ha)] at hk ⊢
    exact h.1 c k j y hc hk ht hy
  · rw [e _ _ (Ne.symm ha)] at hk
    rw [e _ _ (Ne.symm h1)] at hi
    rw [e _ _ (Ne.symm ha)]
    exact h.2.1 k i hk hi
  · rw [e _ _ (Ne.symm ha)]
    exact h.2.2
theorem xm_al.grow {S : xm_S} (h : xm_al S) (k N : Nat) : xm_al (xm_grow k N S) := by
  have e1 : ∀ q, xm_n (xm_grow k N S) 1 q = xm_n S 1 q := fun q => by
    show (if (1:Nat) = 2 ∧ q = k then N else if (1:Nat) = 0 ∧ q = 100 then xm_n S 0 100 + 1 else if (1:Nat) = 0 ∧ q = 101 then xm_n S 0 101 + N else xm_n S 1 q) = _
    rw [if_neg (by omega), if_neg (by omega), if_neg (by omega)]
  have e0 : ∀ q, q < 100 → xm_n (xm_grow k N S) 0 q = xm_n S 0 q := fun q hq => by
    show (if (0:Nat) = 2 ∧ q = k then N else if (0:Nat) = 0 ∧ q = 100 then xm_n S 0 100 + 1 else if (0:Nat) = 0 ∧ q = 101 then xm_n S 0 101 + N else xm_n S 0 q) = _
    rw [if_neg (by omega), if_neg (by omega), if_neg (by omega)]
  refine ⟨fun c k' j y hc hk ht hy => ?_, fun k' i hk hi => ?_, ?_⟩
  · rw [e0 _ (by omega)] at hk
    exact Nat.lt_of_lt_of_le (h.1 c k' j y hc hk ht hy) ((xm_le.grow S k N).1 _)
  · rw [e0 _ (by omega)] at hk
    rw [e1] at hi
    exact ⟨(h.2.1 k' i hk hi).1, Nat.lt_of_lt_of_le (h.2.1 k' i hk hi).2 ((xm_le.grow S k N).1 _)⟩
  · exact Nat.le_trans h.2.2 ((xm_le.grow S k N).1 _)
theorem xm_al.room {S : xm_S} (h : xm_al S) (k : Nat) : xm_al (xm_room k S) := by
  unfold xm_room
  split
  · exact h.grow _ _
  · split
    · exact h.grow _ _
    · exact h
theorem xm_room_1 (S : xm_S) (k q : Nat) : xm_n (xm_room k S) 1 q = xm_n S 1 q := by
  have e1 : ∀ N, xm_n (xm_grow k N S) 1 q = xm_n S 1 q := fun N => by
    show (if (1:Nat) = 2 ∧ q = k then N else if (1:Nat) = 0 ∧ q = 100 then xm_n S 0 100 + 1 else if (1:Nat) = 0 ∧ q = 101 then xm_n S 0 101 + N else xm_n S 1 q) = _
    rw [if_neg (by omega), if_neg (by omega), if_neg (by omega)]
  unfold xm_room
  split
  · exact e1 _
  · split
    · exact e1 _
    · rfl
theorem xm_room_l (S : xm_S) (k : Nat) : xm_l (xm_room k S) = xm_l S := by
  unfold xm_room
  split
  · rfl
  · split <;> rfl
theorem xm_al.push {S : xm_S} (h : xm_al S) (k : Nat) (x : Nat × Nat) (hx : x.1 < 12) (hx2 : x.2 < xm_n S 0 x.1) : xm_al (xm_push k x S) := by
  have hR := h.room k
  have hle := xm_le.room S k
  have e : ∀ p q, p ≠ 1 → xm_n (xm_push k x S) p q = xm_n (xm_room k S) p q := fun p q hp => by
    show xm_u2 _ 1 k _ p q = _
    unfold xm_u2
    rw [if_neg (fun z => hp z.1)]
    rfl
  refine ⟨fun c k' j y hc hk ht hy => ?_, fun k' i hk hi => ?_, ?_⟩
  · rw [e _ _ (by decide)] at hk ⊢
    exact hR.1 c k' j y hc hk ht hy
  · rw [e _ _ (by decide)] at hk
    rw [e _ _ (by decide)]
    show ((xm_u2 (xm_l (xm_room k S)) k (xm_n S 1 k) x k' i).1 < 12 ∧ (xm_u2 (xm_l (xm_room k S)) k (xm_n S 1 k) x k' i).2 < xm_n (xm_room k S) 0 (xm_u2 (xm_l (xm_room k S)) k (xm_n S 1 k) x k' i).1)
    by_cases hq : k' = k ∧ i = xm_n S 1 k
    · unfold xm_u2
      rw [if_pos hq]
      exact ⟨hx, Nat.lt_of_lt_of_le hx2 (hle.1 _)⟩
    · unfold xm_u2
      rw [if_neg hq]
      refine hR.2.1 k' i hk ?_
      rw [xm_room_1]
      replace hi : i < xm_u2 (xm_n (xm_room k S)) 1 k (xm_n S 1 k + 1) 1 k' := hi
      unfold xm_u2 at hi
      split at hi
      · rename_i hz
        rw [hz.2] at hq ⊢
        omega
      · rw [xm_room_1] at hi
        exact hi
  · rw [e _ _ (by decide)]
    exact hR.2.2
theorem xm_al.sl {S : xm_S} (h : xm_al S) (k j : Nat) (x : Nat × Nat) (hx : x.1 < 12) (hx2 : x.2 < xm_n S 0 x.1) : xm_al (xm_sl S k j x) := by
  refine ⟨h.1, fun k' i hk hi => ?_, h.2.2⟩
  show ((xm_u2 (xm_l S) k j x k' i).1 < 12 ∧ (xm_u2 (xm_l S) k j x k' i).2 < xm_n S 0 (xm_u2 (xm_l S) k j x k' i).1)
  unfold xm_u2
  split
  · exact ⟨hx, hx2⟩
  · exact h.2.1 k' i hk hi
theorem xm_al.drop {S : xm_S} (h : xm_al S) (k j : Nat) (hj : j < xm_n S 1 k) : xm_al (xm_drop k j S) := by
  have e : ∀ p q, p ≠ 1 → xm_n (xm_drop k j S) p q = xm_n S p q := fun p q hp => by
    show xm_u2 _ 1 k _ p q = _
    unfold xm_u2
    rw [if_neg (fun z => hp z.1)]
  refine ⟨fun c k' j' y hc hk ht hy => ?_, fun k' i hk hi => ?_, ?_⟩
  · rw [e _ _ (by decide)] at hk ⊢
    exact h.1 c k' j' y hc hk ht hy
  · rw [e _ _ (by decide)] at hk
    rw [e _ _ (by decide)]
    replace hi : i < xm_u2 (xm_n S) 1 k (xm_n S 1 k - 1) 1 k' := hi
    show ((if k' = k ∧ j ≤ i then xm_l S k (i + 1) else xm_l S k' i).1 < 12 ∧ (if k' = k ∧ j ≤ i then xm_l S k (i + 1) else xm_l S k' i).2 < xm_n S 0 (if k' = k ∧ j ≤ i then xm_l S k (i + 1) else xm_l S k' i).1)
    unfold xm_u2 at hi
    by_cases hkk : k' = k
    · rw [if_pos ⟨rfl, hkk⟩] at hi
      subst hkk
      split
      · exact h.2.1 k' (i + 1) hk (by omega)
      · exact h.2.1 k' i hk (by omega)
    · rw [if_neg (fun z => hkk z.2)] at hi
      rw [if_neg (fun z => hkk z.1)]
      exact h.2.1 k' i hk hi
  · rw [e _ _ (by decide)]
    exact h.2.2
theorem xm_al.mk {S : xm_S} (h : xm_al S) (c N : Nat) (hc : c ≤ 15) : xm_al (xm_mk c N S) := by
  have hle := xm_le.mk S c N
  have e0 : ∀ q, q ≠ c → q < 100 → xm_n (xm_mk c N S) 0 q = xm_n S 0 q := fun q hq h1 => by
    show (if (0:Nat) = 0 ∧ q = c then xm_n S 0 c + 1 else if (0:Nat) = 0 ∧ q = 100 then xm_n S 0 100 + 1 else if (0:Nat) = 0 ∧ q = 101 then xm_n S 0 101 + N else if 0 = 10 + c ∧ q = xm_n S 0 c then N else if c = 12 ∧ ((0:Nat) = 1 ∨ (0:Nat) = 2) ∧ q = xm_n S 0 12 then 0 else xm_n S 0 q) = _
    rw [if_neg (by omega), if_neg (by omega), if_neg (by omega), if_neg (by omega), if_neg (by omega)]
  have e0c : xm_n (xm_mk c N S) 0 c = xm_n S 0 c + 1 := by
    show (if (0:Nat) = 0 ∧ c = c then xm_n S 0 c + 1 else _) = _
    rw [if_pos ⟨rfl, rfl⟩]
  have e1 : ∀ q, (q ≠ xm_n S 0 12 ∨ c ≠ 12) → xm_n (xm_mk c N S) 1 q = xm_n S 1 q := fun q hq => by
    show (if (1:Nat) = 0 ∧ q = c then xm_n S 0 c + 1 else if (1:Nat) = 0 ∧ q = 100 then xm_n S 0 100 + 1 else if (1:Nat) = 0 ∧ q = 101 then xm_n S 0 101 + N else if 1 = 10 + c ∧ q = xm_n S 0 c then N else if c = 12 ∧ ((1:Nat) = 1 ∨ (1:Nat) = 2) ∧ q = xm_n S 0 12 then 0 else xm_n S 1 q) = _
    rw [if_neg (by omega), if_neg (by omega), if_neg (by omega), if_neg (by omega), if_neg (by omega)]
  have old : ∀ c' k, c' ≤ 15 → k < xm_n (xm_mk c N S) 0 c' → k < xm_n S 0 c' ∨ (c' = c ∧ k = xm_n S 0 c) := fun c' k h1 h2 => by
    by_cases hq : c' = c
    · rw [hq, e0c] at h2
      rcases Nat.lt_or_ge k (xm_n S 0 c) with h3 | h3
      · left; rw [hq]; exact h3
      · right; exact ⟨hq, by omega⟩
    · rw [e0 _ hq (by omega)] at h2
      exact Or.inl h2
  refine ⟨fun c' k j y h1 hk ht hy => ?_, fun k i hk hi => ?_, Nat.le_trans h.2.2 (hle.1 _)⟩
  · replace hy : (if c' = c ∧ k = xm_n S 0 c then none else xm_r S c' k j) = some y := hy
    split at hy
    · cases hy
    · rename_i hn
      rcases old c' k h1 hk with h3 | h3
      · exact Nat.lt_of_lt_of_le (h.1 c' k j y h1 h3 ht hy) (hle.1 _)
      · exact absurd h3 hn
  · rcases old 12 k (by omega) hk with h3 | ⟨h3, h4⟩
    · rw [e1 k (Or.inl (by omega))] at hi
      exact ⟨(h.2.1 k i h3 hi).1, Nat.lt_of_lt_of_le (h.2.1 k i h3 hi).2 (hle.1 _)⟩
    · subst h3
      have : xm_n (xm_mk 12 N S) 1 k = 0 := by
        show (if (1:Nat) = 0 ∧ k = 12 then xm_n S 0 12 + 1 else if (1:Nat) = 0 ∧ k = 100 then xm_n S 0 100 + 1 else if (1:Nat) = 0 ∧ k = 101 then xm_n S 0 101 + N else if 1 = 10 + 12 ∧ k = xm_n S 0 12 then N else if (12:Nat) = 12 ∧ ((1:Nat) = 1 ∨ (1:Nat) = 2) ∧ k = xm_n S 0 12 then 0 else xm_n S 1 k) = _
        rw [if_neg (by omega), if_neg (by omega), if_neg (by omega), if_neg (by omega), if_pos ⟨rfl, Or.inl rfl, h4⟩]
      rw [this] at hi
      exact absurd hi (Nat.not_lt_zero _)
