/-! ===== the abstract store and the heap ===== -/
def xm_conc (α : Nat → Nat → Nat) (v : xm_V) : Value := match v with
  | .inl x => .int x
  | .inr none => .null
  | .inr (some q) => .ref (α q.1 q.2)
def xm_get (S : xm_S) (c k j : Nat) : xm_V := if xm_ty c j < 2 then .inl (xm_i S c k j) else xm_rf (xm_ty c j - 2) (xm_r S c k j)
/-- the numbers of int[], boolean[], Call[], Object[]; where the JDK's empty array lies -/
abbrev xm_G : Type := ClassId × ClassId × ClassId × ClassId × Nat
def xm_tys (g : xm_G) : List (ClassId × FieldType) := [(g.1, .int), (g.2.1, .boolean), (g.2.2.1, .object "WaterWorks$Call"), (g.2.2.2.1, .object "java/lang/Object")]
def xm_arr (g : xm_G) (α : Nat → Nat → Nat) (S : xm_S) (c k : Nat) : Cell :=
  if c = 13 then arrV g.1 (xm_n S 23 k) (fun j => .int (xm_i S 13 k j)) else if c = 14 then arrV g.2.1 (xm_n S 24 k) (fun j => .int (xm_i S 14 k j)) else arrV g.2.2.1 (xm_n S 25 k) (fun j => xm_conc α (xm_rf 2 (xm_r S 15 k j)))
/-- a list: raw, empty, or with an array of its own -/
def xm_lob (D : va_G) (g : xm_G) (α : Nat → Nat → Nat) (S : xm_S) (k : Nat) (H : Heap) : Prop := ∃ (mo : Int32) (ed : Value), t_OB (α 12 k) (D.1 12) 3 (D.2 12) H (vp_V [ed, .int (nI (xm_n S 1 k)), .int mo]) ∧
  ((xm_n S 2 k = 0 ∧ ed = .null ∧ xm_n S 1 k = 0) ∨ (xm_n S 2 k = 1 ∧ ed = .ref g.2.2.2.2 ∧ xm_n S 1 k = 0) ∨
   (10 ≤ xm_n S 2 k ∧ xm_n S 2 k ≤ 150000 ∧ ed = .ref (xm_a S 18 k) ∧ xm_n S 1 k ≤ xm_n S 2 k ∧ ∃ f : Nat → Option Nat, H[xm_a S 18 k]? = some (arrV g.2.2.2.1 (xm_n S 2 k) (fun j => va_rf (f j))) ∧ ∀ j, j < xm_n S 1 k → f j = some (α (xm_l S k j).1 (xm_l S k j).2)))
def xm_obj (D : va_G) (g : xm_G) (α : Nat → Nat → Nat) (S : xm_S) (c k : Nat) (H : Heap) : Prop :=
  if c < 12 then t_OB (α c k) (D.1 c) (xm_nf c) (D.2 c) H (fun j => xm_conc α (xm_get S c k j)) else if c = 12 then xm_lob D g α S k H else H[α c k]? = some (xm_arr g α S c k)
/-- the heap's parts: its size; addresses; they are apart; the lists' arrays; every object; what lies outside -/
def xm_rel (D : va_G) (g : xm_G) (α : Nat → Nat → Nat) (base : Nat) (S : xm_S) (U : State) (H : Heap) : Prop :=
  (H.size = xm_n S 0 100 ∧ base ≤ H.size) ∧
  (∀ c k, c ≤ 15 → k < xm_n S 0 c → α c k = xm_a S c k ∧ base ≤ α c k ∧ α c k < H.size) ∧
  (∀ c k c' k', c ≤ 15 → c' ≤ 15 → k < xm_n S 0 c → k' < xm_n S 0 c' → α c k = α c' k' → c = c' ∧ k = k') ∧
  (∀ k, k < xm_n S 0 12 → 10 ≤ xm_n S 2 k → base ≤ xm_a S 18 k ∧ xm_a S 18 k < H.size ∧ (∀ c' k', c' ≤ 15 → k' < xm_n S 0 c' → xm_a S 18 k ≠ α c' k') ∧ ∀ k', k' < xm_n S 0 12 → 10 ≤ xm_n S 2 k' → xm_a S 18 k = xm_a S 18 k' → k = k') ∧
  (∀ c k, c ≤ 15 → k < xm_n S 0 c → xm_obj D g α S c k H) ∧
  (∀ c k, c = 16 ∨ c = 17 → k < xm_n S 0 c → α c k < base ∧ va_X (α c k) (xm_n S (10 + c) k) (xm_i S c k) U H)
def xm_eqat (S S' : xm_S) (c k : Nat) : Prop := (∀ j, xm_i S' c k j = xm_i S c k j) ∧ (∀ j, xm_r S' c k j = xm_r S c k j) ∧ xm_n S' (10 + c) k = xm_n S (10 + c) k ∧ (c = 12 → xm_n S' 1 k = xm_n S 1 k ∧ xm_n S' 2 k = xm_n S 2 k ∧ xm_a S' 18 k = xm_a S 18 k ∧ ∀ j, xm_l S' k j = xm_l S k j)
theorem xm_eqat.rf (S : xm_S) (c k : Nat) : xm_eqat S S c k := ⟨fun _ => rfl, fun _ => rfl, rfl, fun _ => ⟨rfl, rfl, rfl, fun _ => rfl⟩⟩
theorem xm_obj.kept {D : va_G} {g : xm_G} {α : Nat → Nat → Nat} {S S' : xm_S} {c k : Nat} {H H' : Heap} (hc : c ≤ 15) (h : xm_obj D g α S c k H) (he : xm_eqat S S' c k) (h1 : H'[α c k]? = H[α c k]?) (h2 : c = 12 → 10 ≤ xm_n S 2 k → H'[xm_a S 18 k]? = H[xm_a S 18 k]?) : xm_obj D g α S' c k H' := by
  obtain ⟨e1, e2, e3, e4⟩ := he
  unfold xm_obj at h ⊢
  split
  · rename_i hlt
    rw [if_pos hlt] at h
    refine (h.kept h1).to (fun j _ => ?_)
    unfold xm_get
    rw [e1, e2]
  · rename_i hlt
    rw [if_neg hlt] at h
    split
    · rename_i h12
      rw [if_pos h12] at h
      obtain ⟨g1, g2, g3, g4⟩ := e4 h12
      obtain ⟨mo, ed, hob, hx⟩ := h
      subst h12
      refine ⟨mo, ed, by rw [g1]; exact hob.kept h1, ?_⟩
      rcases hx with hx | hx | ⟨a1, a0, a2, a3, f, a4, a5⟩
      · left; rw [g1, g2]; exact hx
      · right; left; rw [g1, g2]; exact hx
      · right; right
        rw [g1, g2, g3]
        exact ⟨a1, a0, a2, a3, f, by rw [h2 rfl a1]; exact a4, fun j hj => by rw [g4]; exact a5 j hj⟩
    · rename_i h12
      rw [if_neg h12] at h
      rw [h1, h]
      unfold xm_arr
      have hc3 : c = 13 ∨ c = 14 ∨ c = 15 := by omega
      rcases hc3 with rfl | rfl | rfl
      · simp only [if_pos]
        rw [show xm_n S' 23 k = xm_n S 23 k from e3]
        simp only [e1]
      · simp only [if_pos, show ¬ (14:Nat) = 13 by decide, if_false]
        rw [show xm_n S' 24 k = xm_n S 24 k from e3]
        simp only [e1]
      · simp only [show ¬ (15:Nat) = 13 by decide, show ¬ (15:Nat) = 14 by decide, if_false]
        rw [show xm_n S' 25 k = xm_n S 25 k from e3]
        simp only [e2]
/-- one object of kind c < 12 or an array was written -/
theorem xm_rel.put {D : va_G} {g : xm_G} {α : Nat → Nat → Nat} {base : Nat} {S S' : xm_S} {U : State} {H H' : Heap} {c k : Nat} (h : xm_rel D g α base S U H) (hc : c ≤ 15) (hk : k < xm_n S 0 c) (h12 : c ≠ 12)
    (hn : xm_n S' = xm_n S) (ha : xm_a S' = xm_a S) (hl : xm_l S' = xm_l S) (hi : ∀ p q j, (p = c ∧ q = k) ∨ xm_i S' p q j = xm_i S p q j) (hr : ∀ p q j, (p = c ∧ q = k) ∨ xm_r S' p q j = xm_r S p q j)
    (hz : H'.size = H.size) (ho : ∀ q, q ≠ α c k → H'[q]? = H[q]?) (hob : xm_obj D g α S' c k H') : xm_rel D g α base S' U H' := by
  obtain ⟨h1, h2, h3, h4, h5, h6⟩ := h
  have hlt : base ≤ α c k := (h2 c k hc hk).2.1
  unfold xm_rel
  rw [hn, ha, hz]
  refine ⟨h1, h2, h3, h4, fun c' k' hc' hk' => ?_, fun c' k' hc' hk' => ?_⟩
  · by_cases hq : c' = c ∧ k' = k
    · rw [hq.1, hq.2]
      exact hob
    · have hne : α c' k' ≠ α c k := fun z => hq (h3 c' k' c k hc' hc hk' hk z)
      refine (h5 c' k' hc' hk').kept hc' ⟨fun j => (hi c' k' j).resolve_left hq, fun j => (hr c' k' j).resolve_left hq, by rw [hn], fun _ => ⟨by rw [hn], by rw [hn], by rw [ha], fun j => by rw [hl]⟩⟩ (ho _ hne) (fun e h10 => ho _ ?_)
      subst e
      exact (h4 k' hk' h10).2.2.1 c k hc hk
  · obtain ⟨b1, b2⟩ := h6 c' k' hc' hk'
    have e : xm_i S' c' k' = xm_i S c' k' := funext fun j => (hi c' k' j).resolve_left (by rintro ⟨z, -⟩; omega)
    rw [e]
    exact ⟨b1, b2.kept (ho _ (by omega))⟩
theorem xm_rel.moved {D : va_G} {g : xm_G} {α : Nat → Nat → Nat} {base : Nat} {S : xm_S} {u U : State} {H : Heap} (hvm : u.vm.Alike U.vm) (h : xm_rel D g α base S u H) : xm_rel D g α base S U H :=
  ⟨h.1, h.2.1, h.2.2.1, h.2.2.2.1, h.2.2.2.2.1, fun c k hc hk => ⟨(h.2.2.2.2.2 c k hc hk).1, (h.2.2.2.2.2 c k hc hk).2.moved hvm⟩⟩
