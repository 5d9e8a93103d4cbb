/-! ===== one step keeps: references speak of made objects ===== -/
def xm_wf (q : Instr) : Bool := match q with
  | .getfield f => decide (f % 32 = xm_ty (f / 8192) (f / 32 % 256) ∧ f % 32 ≤ 19 ∧ f / 8192 ≤ 11 ∧ f / 32 % 256 < xm_nf (f / 8192))
  | .putfield f => decide (f % 32 = xm_ty (f / 8192) (f / 32 % 256) ∧ f % 32 ≤ 19 ∧ f / 8192 ≤ 11 ∧ f / 32 % 256 < xm_nf (f / 8192))
  | .getstatic k => decide (k < 7)
  | .new c => decide (c ≤ 12)
  | _ => true
def xm_okR (S : xm_S) (R : xm_R) : Prop := match R with
  | .inl q => xm_le S q.2.2.2 ∧ xm_al q.2.2.2 ∧ xm_alL q.2.2.2 q.2.1 ∧ xm_alst q.2.2.2 q.2.2.1
  | .inr (.inl r) => ∀ v, r = some v → xm_alv S v
  | .inr (.inr q) => xm_alst S q.2.1 ∧ xm_alL S q.2.2.2.1 ∧ xm_alst S q.2.2.2.2
theorem xm_okN {S : xm_S} {pc : Nat} {L : xm_L} {st : List xm_V} (hS : xm_al S) (hL : xm_alL S L) (hst : xm_alst S st) : xm_okR S (.inl (pc, L, st, S)) := ⟨xm_le.rf S, hS, hL, hst⟩
theorem xm_okU {S S' : xm_S} {pc : Nat} {L : xm_L} {st : List xm_V} (h : xm_le S S') (hS : xm_al S') (hL : xm_alL S L) (hst : xm_alst S st) : xm_okR S (.inl (pc, L, st, S')) := ⟨h, hS, xm_alL.up h hL, xm_alst.up h hst⟩
theorem xm_ix_lt {i : Int32} {n j : Nat} (h : xm_ix i n = some j) : j < n ∧ j = i.toNatClampNeg ∧ ¬ (i < 0 ∨ n ≤ i.toNatClampNeg) := by
  unfold xm_ix at h
  split at h
  · cases h
  · rename_i hq
    cases h
    exact ⟨Nat.not_le.mp fun z => hq (Or.inr z), rfl, hq⟩
theorem xm_alL_at {S : xm_S} {L : xm_L} {i : Nat} {v : xm_V} (hL : xm_alL S L) (h : L[i]? = some (some v)) : xm_alv S v := hL v (List.mem_of_getElem? h)
theorem xm_intr_al {q nx : Nat} {L : xm_L} {st : List xm_V} {S : xm_S} {R : xm_R} (hS : xm_al S) (hL : xm_alL S L) (hst : xm_alst S st) (h : xm_intr q nx L st S = some R) : xm_okR S R := by
  unfold xm_intr at h
  split at h
  · split at h
    · cases h
      exact xm_okU (xm_le.sn _ _ _ _ (by decide)) (hS.sn _ _ _ (by decide) (by decide)) hL hst.tl
    · cases h
  · split at h
    · cases h
    · rename_i hq
      cases h
      refine xm_okU (xm_le.push _ _ _) (hS.push _ _ (by omega) ?_) hL (xm_alst.cons (xm_alv.i _ _) hst.tl.tl)
      exact (hst.hd _ _ rfl).2
  · obtain ⟨j, hj, h⟩ := Option.bind_eq_some_iff.mp h
    cases h
    obtain ⟨h1, -, -⟩ := xm_ix_lt hj
    have hk := (hst.tl.hd _ _ rfl).2
    exact xm_okN hS hL (xm_alst.cons (fun c k e => by
      have e2 := Option.some.inj (Sum.inr.inj e)
      have h3 := hS.2.1 _ _ hk h1
      rw [e2] at h3
      exact ⟨by omega, h3.2⟩) hst.tl.tl)
  · split at h
    · cases h
    rename_i hx
    obtain ⟨j, hj, h⟩ := Option.bind_eq_some_iff.mp h
    cases h
    obtain ⟨h1, -, -⟩ := xm_ix_lt hj
    have hk := (hst.tl.tl.hd _ _ rfl).2
    exact xm_okU (xm_le.sl _ _ _ _) (hS.sl _ _ _ (by omega) (hst.hd _ _ rfl).2) hL (xm_alst.cons (fun c k e => by
      have e2 := Option.some.inj (Sum.inr.inj e)
      have h3 := hS.2.1 _ _ hk h1
      rw [e2] at h3
      exact ⟨by omega, h3.2⟩) hst.tl.tl.tl)
  · obtain ⟨j, hj, h⟩ := Option.bind_eq_some_iff.mp h
    cases h
    obtain ⟨h1, -, -⟩ := xm_ix_lt hj
    have hk := (hst.tl.hd _ _ rfl).2
    exact xm_okU (xm_le.drop _ _ _) (hS.drop _ _ h1) hL (xm_alst.cons (fun c k e => by
      have e2 := Option.some.inj (Sum.inr.inj e)
      have h3 := hS.2.1 _ _ hk h1
      rw [e2] at h3
      exact ⟨by omega, h3.2⟩) hst.tl.tl)
  · cases h
    exact xm_okN hS hL (xm_alst.cons (xm_alv.i _ _) hst.tl)
  · cases h
    exact xm_okN hS hL (xm_alst.cons (xm_alv.i _ _) hst.tl)
  · cases h
    exact xm_okN hS hL (xm_alst.cons (xm_alv.i _ _) hst.tl)
  · cases h
    exact xm_okN hS hL (xm_alst.cons (xm_alv.i _ _) hst.tl.tl)
  · cases h
    exact xm_okN hS hL hst.tl
  · cases h
theorem xm_getf_al {f nx : Nat} {L : xm_L} {st : List xm_V} {S : xm_S} {R : xm_R} (hw : f % 32 = xm_ty (f / 8192) (f / 32 % 256) ∧ f % 32 ≤ 19 ∧ f / 8192 ≤ 11 ∧ f / 32 % 256 < xm_nf (f / 8192)) (hS : xm_al S) (hL : xm_alL S L) (hst : xm_alst S st) (h : xm_getf f nx L st S = some R) : xm_okR S R := by
  unfold xm_getf at h
  split at h
  · rename_i c k st'
    split at h
    · rename_i hc
      split at h
      · cases h
        exact xm_okN hS hL (xm_alst.cons (xm_alv.i _ _) hst.tl)
      · rename_i h2
        cases h
        refine xm_okN hS hL (xm_alst.cons (xm_alv.rf (by omega) (fun e he => ?_)) hst.tl)
        have hk := (hst.hd _ _ rfl).2
        have := hS.1 c k (f / 32 % 256) e (by omega) hk (by rw [hc, ← hw.1]; omega) he
        rw [hc, ← hw.1] at this
        exact this
    · cases h
  · cases h
theorem xm_putf_al {f nx : Nat} {L : xm_L} {st : List xm_V} {S : xm_S} {R : xm_R} (hw : f % 32 = xm_ty (f / 8192) (f / 32 % 256) ∧ f % 32 ≤ 19 ∧ f / 8192 ≤ 11 ∧ f / 32 % 256 < xm_nf (f / 8192)) (hS : xm_al S) (hL : xm_alL S L) (hst : xm_alst S st) (h : xm_putf f nx L st S = some R) : xm_okR S R := by
  unfold xm_putf at h
  split at h
  · split at h
    · cases h
      exact xm_okU (xm_le.si _ _ _ _ _) (hS.si _ _ _ _) hL hst.tl.tl
    · cases h
  · split at h
    · cases h
      exact xm_okU (xm_le.sr _ _ _ _ _) (hS.sr _ _ _ _ (fun e he => by cases he)) hL hst.tl.tl
    · cases h
  · split at h
    · rename_i hc
      cases h
      refine xm_okU (xm_le.sr _ _ _ _ _) (hS.sr _ _ _ _ (fun e he _ _ => ?_)) hL hst.tl.tl
      cases he
      have hk := (hst.hd _ _ rfl).2
      rw [hc.1, ← hw.1, hc.2]
      exact hk
    · cases h
  · cases h

theorem xm_ild_al {nx : Nat} {L : xm_L} {st : List xm_V} {S : xm_S} {R : xm_R} (hS : xm_al S) (hL : xm_alL S L) (hst : xm_alst S st) (h : xm_ild nx L st S = some R) : xm_okR S R := by
  unfold xm_ild at h
  split at h
  · split at h
    · rename_i hc
      obtain ⟨j, hj, h⟩ := Option.bind_eq_some_iff.mp h
      cases h
      exact xm_okN hS hL (xm_alst.cons (xm_alv.i _ _) hst.tl.tl)
    · cases h
  · cases h

theorem xm_zld_al {nx : Nat} {L : xm_L} {st : List xm_V} {S : xm_S} {R : xm_R} (hS : xm_al S) (hL : xm_alL S L) (hst : xm_alst S st) (h : xm_zld nx L st S = some R) : xm_okR S R := by
  unfold xm_zld at h
  split at h
  · split at h
    · rename_i hc
      obtain ⟨j, hj, h⟩ := Option.bind_eq_some_iff.mp h
      cases h
      exact xm_okN hS hL (xm_alst.cons (xm_alv.i _ _) hst.tl.tl)
    · cases h
  · cases h

theorem xm_ald_al {nx : Nat} {L : xm_L} {st : List xm_V} {S : xm_S} {R : xm_R} (hS : xm_al S) (hL : xm_alL S L) (hst : xm_alst S st) (h : xm_ald nx L st S = some R) : xm_okR S R := by
  unfold xm_ald at h
  split at h
  · split at h
    · rename_i hc
      obtain ⟨j, hj, h⟩ := Option.bind_eq_some_iff.mp h
      cases h
      have hk := (hst.tl.hd _ _ rfl).2
      rw [hc] at hk
      exact xm_okN hS hL (xm_alst.cons (xm_alv.rf (by decide) (fun e he => hS.1 15 _ j e (by decide) hk (by unfold xm_ty; rw [if_pos rfl]; decide) he)) hst.tl.tl)
    · cases h
  · cases h

theorem xm_ist_al {nx : Nat} {L : xm_L} {st : List xm_V} {S : xm_S} {R : xm_R} (hS : xm_al S) (hL : xm_alL S L) (hst : xm_alst S st) (h : xm_ist nx L st S = some R) : xm_okR S R := by
  unfold xm_ist at h
  split at h
  · split at h
    · rename_i hc
      obtain ⟨j, hj, h⟩ := Option.bind_eq_some_iff.mp h
      cases h
      exact xm_okU (xm_le.si _ _ _ _ _) (hS.si _ _ _ _) hL hst.tl.tl.tl
    · cases h
  · cases h

theorem xm_zst_al {nx : Nat} {L : xm_L} {st : List xm_V} {S : xm_S} {R : xm_R} (hS : xm_al S) (hL : xm_alL S L) (hst : xm_alst S st) (h : xm_zst nx L st S = some R) : xm_okR S R := by
  unfold xm_zst at h
  split at h
  · split at h
    · rename_i hc
      obtain ⟨j, hj, h⟩ := Option.bind_eq_some_iff.mp h
      cases h
      exact xm_okU (xm_le.si _ _ _ _ _) (hS.si _ _ _ _) hL hst.tl.tl.tl
    · cases h
  · cases h

theorem xm_ast_al {nx : Nat} {L : xm_L} {st : List xm_V} {S : xm_S} {R : xm_R} (hS : xm_al S) (hL : xm_alL S L) (hst : xm_alst S st) (h : xm_ast nx L st S = some R) : xm_okR S R := by
  unfold xm_ast at h
  split at h
  · split at h
    · rename_i hc
      obtain ⟨j, hj, h⟩ := Option.bind_eq_some_iff.mp h
      cases h
      have hk := (hst.hd _ _ rfl).2
      rw [hc.2] at hk
      exact xm_okU (xm_le.sr _ _ _ _ _) (hS.sr _ _ _ _ (fun e he _ _ => by cases he; unfold xm_ty; rw [if_pos rfl]; exact hk)) hL hst.tl.tl.tl
    · cases h
  · cases h

theorem xm_alen_al {nx : Nat} {L : xm_L} {st : List xm_V} {S : xm_S} {R : xm_R} (hS : xm_al S) (hL : xm_alL S L) (hst : xm_alst S st) (h : xm_alen nx L st S = some R) : xm_okR S R := by
  unfold xm_alen at h
  split at h
  · split at h
    · rename_i hc
      cases h
      exact xm_okN hS hL (xm_alst.cons (xm_alv.i _ _) hst.tl)
    · cases h
  · cases h

theorem xm_newa_al {c nx : Nat} {L : xm_L} {st : List xm_V} {S : xm_S} {R : xm_R} (hc : c ≤ 15) (hS : xm_al S) (hL : xm_alL S L) (hst : xm_alst S st) (h : xm_newa c nx L st S = some R) : xm_okR S R := by
  unfold xm_newa at h
  split at h
  · split at h
    · cases h
    · cases h
      have hle := xm_le.mk S c (Int32.toNatClampNeg (by assumption))
      refine ⟨xm_le.mk S c _, hS.mk _ _ hc, xm_alL.up (xm_le.mk S c _) hL, xm_alst.cons (xm_alv.r (by omega) ?_) (xm_alst.up (xm_le.mk S c _) hst.tl)⟩
      show xm_n S 0 c < (if (0:Nat) = 0 ∧ c = c then xm_n S 0 c + 1 else _)
      rw [if_pos ⟨rfl, rfl⟩]
      omega
  · cases h
theorem xm_call_al {q nx : Nat} {L : xm_L} {st : List xm_V} {S : xm_S} {R : xm_R} (hS : xm_al S) (hL : xm_alL S L) (hst : xm_alst S st) (h : xm_call q nx L st S = some R) : xm_okR S R := by
  unfold xm_call at h
  split at h
  · split at h
    · exact xm_intr_al hS hL hst h
    · cases h
  · split at h
    · cases h
      exact ⟨fun v hv => hst v (List.mem_of_mem_take (List.mem_reverse.mp hv)), hL, fun v hv => hst v (List.mem_of_mem_drop hv)⟩
    · cases h
set_option maxHeartbeats 2000000 in
theorem xm_step_al (q : Instr × Nat) (hw : xm_wf q.1 = true) {L : xm_L} {st : List xm_V} {S : xm_S} {R : xm_R} (hS : xm_al S) (hL : xm_alL S L) (hst : xm_alst S st) (h : xm_step q L st S = some R) : xm_okR S R := by
  obtain ⟨ins, nx⟩ := q
  cases ins with
  | iconst x =>
    replace h : xm_nx nx L (.inl (Int32.ofInt x) :: st) S = some R := h
    cases h
    exact xm_okN hS hL (xm_alst.cons (xm_alv.i _ _) hst)
  | aconst_null =>
    replace h : xm_nx nx L (.inr none :: st) S = some R := h
    cases h
    exact xm_okN hS hL (xm_alst.cons (xm_alv.n _) hst)
  | iload i =>
    replace h : (match (generalizing := false) L[i]? with | some (some (.inl x)) => xm_nx nx L (.inl x :: st) S | _ => none) = some R := h
    split at h
    · rename_i hx
      cases h
      exact xm_okN hS hL (xm_alst.cons (xm_alL_at hL hx) hst)
    · cases h
  | aload i =>
    replace h : (match (generalizing := false) L[i]? with | some (some (.inr x)) => xm_nx nx L (.inr x :: st) S | _ => none) = some R := h
    split at h
    · rename_i hx
      cases h
      exact xm_okN hS hL (xm_alst.cons (xm_alL_at hL hx) hst)
    · cases h
  | istore i =>
    replace h : (match (generalizing := false) st with | .inl x :: st => if i < L.length then xm_nx nx (L.set i (some (.inl x))) st S else none | _ => none) = some R := h
    split at h
    · split at h
      · cases h
        exact xm_okN hS (hL.set hst.hd) hst.tl
      · cases h
    · cases h
  | astore i =>
    replace h : (match (generalizing := false) st with | .inr x :: st => if i < L.length then xm_nx nx (L.set i (some (.inr x))) st S else none | _ => none) = some R := h
    split at h
    · split at h
      · cases h
        exact xm_okN hS (hL.set hst.hd) hst.tl
      · cases h
    · cases h
  | iinc i n =>
    replace h : (match (generalizing := false) L[i]? with | some (some (.inl x)) => xm_nx nx (L.set i (some (.inl (x + Int32.ofInt n)))) st S | _ => none) = some R := h
    split at h
    · cases h
      exact xm_okN hS (hL.set (xm_alv.i _ _)) hst
    · cases h
  | iadd =>
    replace h : (match (generalizing := false) st with | .inl y :: .inl x :: st => xm_nx nx L (.inl (x + y) :: st) S | _ => none) = some R := h
    split at h
    · cases h
      exact xm_okN hS hL (xm_alst.cons (xm_alv.i _ _) hst.tl.tl)
    · cases h
  | isub =>
    replace h : (match (generalizing := false) st with | .inl y :: .inl x :: st => xm_nx nx L (.inl (x - y) :: st) S | _ => none) = some R := h
    split at h
    · cases h
      exact xm_okN hS hL (xm_alst.cons (xm_alv.i _ _) hst.tl.tl)
    · cases h
  | imul =>
    replace h : (match (generalizing := false) st with | .inl y :: .inl x :: st => xm_nx nx L (.inl (x * y) :: st) S | _ => none) = some R := h
    split at h
    · cases h
      exact xm_okN hS hL (xm_alst.cons (xm_alv.i _ _) hst.tl.tl)
    · cases h
  | iand =>
    replace h : (match (generalizing := false) st with | .inl y :: .inl x :: st => xm_nx nx L (.inl (x &&& y) :: st) S | _ => none) = some R := h
    split at h
    · cases h
      exact xm_okN hS hL (xm_alst.cons (xm_alv.i _ _) hst.tl.tl)
    · cases h
  | ior =>
    replace h : (match (generalizing := false) st with | .inl y :: .inl x :: st => xm_nx nx L (.inl (x ||| y) :: st) S | _ => none) = some R := h
    split at h
    · cases h
      exact xm_okN hS hL (xm_alst.cons (xm_alv.i _ _) hst.tl.tl)
    · cases h
  | ishl =>
    replace h : (match (generalizing := false) st with | .inl y :: .inl x :: st => xm_nx nx L (.inl (x <<< (y &&& 31)) :: st) S | _ => none) = some R := h
    split at h
    · cases h
      exact xm_okN hS hL (xm_alst.cons (xm_alv.i _ _) hst.tl.tl)
    · cases h
  | irem =>
    replace h : (match (generalizing := false) st with | .inl y :: .inl x :: st => if y = 0 then none else xm_nx nx L (.inl (x - x / y * y) :: st) S | _ => none) = some R := h
    split at h
    · split at h
      · cases h
      · cases h
        exact xm_okN hS hL (xm_alst.cons (xm_alv.i _ _) hst.tl.tl)
    · cases h
  | ineg =>
    replace h : (match (generalizing := false) st with | .inl x :: st => xm_nx nx L (.inl (-x) :: st) S | _ => none) = some R := h
    split at h
    · cases h
      exact xm_okN hS hL (xm_alst.cons (xm_alv.i _ _) hst.tl)
    · cases h
  | dup =>
    replace h : (match (generalizing := false) st with | v :: st => xm_nx nx L (v :: v :: st) S | _ => none) = some R := h
    split at h
    · cases h
      exact xm_okN hS hL (xm_alst.cons hst.hd hst)
    · cases h
  | dup_x1 =>
    replace h : (match (generalizing := false) st with | v :: w :: st => xm_nx nx L (v :: w :: v :: st) S | _ => none) = some R := h
    split at h
    · cases h
      exact xm_okN hS hL (xm_alst.cons hst.hd (xm_alst.cons hst.tl.hd (xm_alst.cons hst.hd hst.tl.tl)))
    · cases h
  | dup2 =>
    replace h : (match (generalizing := false) st with | v :: w :: st => xm_nx nx L (v :: w :: v :: w :: st) S | _ => none) = some R := h
    split at h
    · cases h
      exact xm_okN hS hL (xm_alst.cons hst.hd (xm_alst.cons hst.tl.hd hst))
    · cases h
  | pop =>
    replace h : (match (generalizing := false) st with | _ :: st => xm_nx nx L st S | _ => none) = some R := h
    split at h
    · cases h
      exact xm_okN hS hL hst.tl
    · cases h
  | ifCond cd t =>
    replace h : (match (generalizing := false) st with | .inl x :: st => xm_nx (if xm_cmp cd x 0 = true then t.toNat else nx) L st S | _ => none) = some R := h
    split at h
    · cases h
      exact xm_okN hS hL hst.tl
    · cases h
  | if_icmp cd t =>
    replace h : (match (generalizing := false) st with | .inl y :: .inl x :: st => xm_nx (if xm_cmp cd x y = true then t.toNat else nx) L st S | _ => none) = some R := h
    split at h
    · cases h
      exact xm_okN hS hL hst.tl.tl
    · cases h
  | if_acmp cd t =>
    cases cd with
    | eq =>
      replace h : (match (generalizing := false) st with | .inr y :: .inr x :: st => if xm_k12 x = true ∧ xm_k12 y = true then xm_nx (if x = y then t.toNat else nx) L st S else none | _ => none) = some R := h
      split at h
      · split at h
        · cases h
          exact xm_okN hS hL hst.tl.tl
        · cases h
      · cases h
    | ne =>
      replace h : (match (generalizing := false) st with | .inr y :: .inr x :: st => if xm_k12 x = true ∧ xm_k12 y = true then xm_nx (if x = y then nx else t.toNat) L st S else none | _ => none) = some R := h
      split at h
      · split at h
        · cases h
          exact xm_okN hS hL hst.tl.tl
        · cases h
      · cases h
  | ifnull t =>
    replace h : (match (generalizing := false) st with | .inr x :: st => xm_nx (if x = none then t.toNat else nx) L st S | _ => none) = some R := h
    split at h
    · cases h
      exact xm_okN hS hL hst.tl
    · cases h
  | ifnonnull t =>
    replace h : (match (generalizing := false) st with | .inr x :: st => xm_nx (if x = none then nx else t.toNat) L st S | _ => none) = some R := h
    split at h
    · cases h
      exact xm_okN hS hL hst.tl
    · cases h
  | goto t =>
    replace h : xm_nx t.toNat L st S = some R := h
    cases h
    exact xm_okN hS hL hst
  | tableswitch d lo hi offs =>
    replace h : (match (generalizing := false) st with | .inl x :: st => xm_nx (if x.toInt < lo ∨ hi < x.toInt then d.toNat else (offs.getD (x.toInt - lo).toNat 0).toNat) L st S | _ => none) = some R := h
    split at h
    · cases h
      exact xm_okN hS hL hst.tl
    · cases h
  | lookupswitch d ps =>
    replace h : (match (generalizing := false) st with | .inl x :: st => xm_nx (Op.lookupswitch.offset ps.toList d x.toInt).toNat L st S | _ => none) = some R := h
    split at h
    · cases h
      exact xm_okN hS hL hst.tl
    · cases h
  | getfield f =>
    exact xm_getf_al (of_decide_eq_true hw) hS hL hst h
  | putfield f =>
    exact xm_putf_al (of_decide_eq_true hw) hS hL hst h
  | getstatic k =>
    replace h : xm_nx nx L (.inr (some (16, k)) :: st) S = some R := h
    cases h
    exact xm_okN hS hL (xm_alst.cons (xm_alv.r (by decide) (Nat.lt_of_lt_of_le (of_decide_eq_true hw) hS.2.2)) hst)
  | new c =>
    replace h : xm_nx nx L (.inr (some (c, xm_n S 0 c)) :: st) (xm_mk c (xm_nf c) S) = some R := h
    have hc : c ≤ 12 := of_decide_eq_true hw
    cases h
    refine ⟨xm_le.mk S c _, hS.mk _ _ (by omega), xm_alL.up (xm_le.mk S c _) hL, xm_alst.cons (xm_alv.r (by omega) ?_) (xm_alst.up (xm_le.mk S c _) hst)⟩
    show xm_n S 0 c < (if (0:Nat) = 0 ∧ c = c then xm_n S 0 c + 1 else _)
    rw [if_pos ⟨rfl, rfl⟩]
    omega
  | newarray t =>
    cases t with
    | int => exact xm_newa_al (c := 13) (by decide) hS hL hst h
    | boolean => exact xm_newa_al (c := 14) (by decide) hS hL hst h
    | _ => cases h
  | anewarray j => exact xm_newa_al (c := 15) (by decide) hS hL hst h
  | iaload => exact xm_ild_al hS hL hst h
  | baload => exact xm_zld_al hS hL hst h
  | aaload => exact xm_ald_al hS hL hst h
  | iastore => exact xm_ist_al hS hL hst h
  | bastore => exact xm_zst_al hS hL hst h
  | aastore => exact xm_ast_al hS hL hst h
  | arraylength => exact xm_alen_al hS hL hst h
  | checkcast c =>
    replace h : (match (generalizing := false) st with | .inr none :: _ => xm_nx nx L st S | .inr (some (d, _)) :: _ => if d = c then xm_nx nx L st S else none | _ => none) = some R := h
    split at h
    · cases h
      exact xm_okN hS hL hst
    · split at h
      · cases h
        exact xm_okN hS hL hst
      · cases h
    · cases h
  | invokevirtual j => exact xm_call_al hS hL hst h
  | invokespecial j => exact xm_call_al hS hL hst h
  | invokestatic j => exact xm_call_al hS hL hst h
  | ireturn =>
    replace h : (match (generalizing := false) st with | [.inl x] => some (.inr (.inl (some (.inl x)))) | _ => none) = some R := h
    split at h
    · cases h
      intro v hv
      cases hv
      exact xm_alv.i _ _
    · cases h
  | freturn =>
    replace h : (match (generalizing := false) st with | [.inl x] => if x = 0 ∨ x = 1 then some (.inr (.inl (some (.inl x)))) else none | _ => none) = some R := h
    split at h
    · split at h
      · cases h
        intro v hv
        cases hv
        exact xm_alv.i _ _
      · cases h
    · cases h
  | areturn =>
    replace h : (match (generalizing := false) st with | [.inr x] => some (.inr (.inl (some (.inr x)))) | _ => none) = some R := h
    split at h
    · cases h
      intro v hv
      cases hv
      exact hst.hd
    · cases h
  | return_ =>
    replace h : (match (generalizing := false) st with | [] => some (.inr (.inl none)) | _ => none) = some R := h
    split at h
    · cases h
      intro v hv
      cases hv
    · cases h
  | _ => cases h
theorem xm_exec_al {P : Nat → Nat → Instr × Nat} {ML : Nat → Nat} (hP : ∀ mi pc, xm_wf (P mi pc).1 = true) : ∀ (n d mi pc : Nat) (L : xm_L) (st : List xm_V) (S : xm_S) (x : Option xm_V × xm_S), xm_al S → xm_alL S L → xm_alst S st → xm_exec P ML n d mi pc L st S = some x → xm_le S x.2 ∧ xm_al x.2 ∧ ∀ v, x.1 = some v → xm_alv x.2 v := by
  intro n
  induction n with
  | zero => intro d mi pc L st S x _ _ _ h; simp [xm_exec] at h
  | succ n ih =>
    intro d mi pc L st S x hS hL hst h
    rw [xm_exec_s] at h
    rcases hq : xm_step (P mi pc) L st S with _ | (q | (r | q))
    · rw [hq] at h
      cases h
    · rw [hq] at h
      obtain ⟨a, b, c, e⟩ := xm_step_al _ (hP mi pc) hS hL hst hq
      obtain ⟨a', b'⟩ := ih _ _ _ _ _ _ _ b c e h
      exact ⟨a.tr a', b'⟩
    · rw [hq] at h
      cases h
      exact ⟨xm_le.rf S, hS, xm_step_al _ (hP mi pc) hS hL hst hq⟩
    · rw [hq] at h
      replace h : (if d = 0 then none else (xm_exec P ML n (d - 1) q.1 0 (q.2.1.map some ++ List.replicate (ML q.1 - q.2.1.length) none) [] S).bind fun z => xm_exec P ML n d mi q.2.2.1 q.2.2.2.1 (z.1.toList ++ q.2.2.2.2) z.2) = some x := h
      obtain ⟨ha, hL2, hr⟩ := xm_step_al _ (hP mi pc) hS hL hst hq
      split at h
      · cases h
      · obtain ⟨z, hz, h⟩ := Option.bind_eq_some_iff.mp h
        have hLn : xm_alL S (q.2.1.map some ++ List.replicate (ML q.1 - q.2.1.length) none) := fun v hv => by
          rcases List.mem_append.mp hv with hv | hv
          · obtain ⟨w, hw, e⟩ := List.mem_map.mp hv
            cases e
            exact ha _ hw
          · exact absurd (List.eq_of_mem_replicate hv) (by simp)
        obtain ⟨a1, b1, c1⟩ := ih _ _ _ _ _ _ _ hS hLn (xm_alst.nil S) hz
        have hst2 : xm_alst z.2 (z.1.toList ++ q.2.2.2.2) := fun v hv => by
          rcases List.mem_append.mp hv with hv | hv
          · exact c1 v (Option.mem_toList.mp hv)
          · exact (hr v hv).up a1
        obtain ⟨a2, b2⟩ := ih _ _ _ _ _ _ _ b1 (xm_alL.up a1 hL2) hst2 h
        exact ⟨a1.tr a2, b2⟩
