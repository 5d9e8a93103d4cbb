/-! ===== what a step may change ===== -/
section
/-- the method that an instruction calls (none: it calls none of ours) -/
def xm_cq (ins : Instr) : Option Nat := match ins with
  | .invokevirtual j => some j
  | .invokespecial j => some j
  | .invokestatic j => some j
  | _ => none
def xm_chL (S S1 : xm_S) : Prop := (∃ k, k < xm_n S 0 12 ∧ xm_n S 2 k = 0 ∧ S1 = xm_sn S 2 k 1) ∨ (∃ k x, k < xm_n S 0 12 ∧ xm_n S 2 k ≠ 0 ∧ S1 = xm_push k x S) ∨ (∃ k j x, S1 = xm_sl S k j x) ∨ ∃ k j, S1 = xm_drop k j S
def xm_ch (ins : Instr) (S S1 : xm_S) : Prop := S1 = S ∨ (match ins with
  | .putfield f => (∃ k x, S1 = xm_si S (f / 8192) k (f / 32 % 256) x) ∨ ∃ k x, S1 = xm_sr S (f / 8192) k (f / 32 % 256) x
  | .new c => S1 = xm_mk c (xm_nf c) S
  | .newarray _ => ∃ c N, (c = 13 ∨ c = 14) ∧ N ≤ 20000 ∧ S1 = xm_mk c N S
  | .anewarray _ => ∃ N, N ≤ 20000 ∧ S1 = xm_mk 15 N S
  | .iastore => ∃ k j x, S1 = xm_si S 13 k j x
  | .bastore => ∃ k j x, S1 = xm_si S 14 k j x
  | .aastore => ∃ k j x, S1 = xm_sr S 15 k j x
  | .invokevirtual _ => xm_chL S S1
  | .invokespecial _ => xm_chL S S1
  | .invokestatic _ => xm_chL S S1
  | _ => False)
def xm_chR (ins : Instr) (S : xm_S) (R : xm_R) : Prop := match R with
  | .inl q => xm_ch ins S q.2.2.2
  | .inr (.inl _) => True
  | .inr (.inr q) => ∃ j, xm_cq ins = some j ∧ j < 256000 ∧ q.1 = j / 256
theorem xm_getf_ch {f nx : Nat} {L : xm_L} {st : List xm_V} {S : xm_S} {R : xm_R} {ins : Instr} (h : xm_getf f nx L st S = some R) : xm_chR ins S R := by
  unfold xm_getf at h
  split at h
  · split at h
    · split at h
      · cases h; exact Or.inl rfl
      · cases h; exact Or.inl rfl
    · cases h
  · cases h
theorem xm_putf_ch {f nx : Nat} {L : xm_L} {st : List xm_V} {S : xm_S} {R : xm_R} (h : xm_putf f nx L st S = some R) : xm_chR (.putfield f) S R := by
  unfold xm_putf at h
  split at h
  · split at h
    · rename_i hc
      cases h
      exact Or.inr (Or.inl ⟨_, _, by rw [← hc.1]⟩)
    · cases h
  · split at h
    · rename_i hc
      cases h
      exact Or.inr (Or.inr ⟨_, _, by rw [← hc.1]⟩)
    · cases h
  · split at h
    · rename_i hc
      cases h
      exact Or.inr (Or.inr ⟨_, _, by rw [← hc.1]⟩)
    · cases h
  · cases h
theorem xm_newa_ch {c nx : Nat} {L : xm_L} {st : List xm_V} {S : xm_S} {R : xm_R} {ins : Instr} (hk : ∀ N, N ≤ 20000 → xm_ch ins S (xm_mk c N S)) (h : xm_newa c nx L st S = some R) : xm_chR ins S R := by
  unfold xm_newa at h
  split at h
  · split at h
    · cases h
    · rename_i hn
      cases h
      exact hk _ (Nat.le_of_not_lt (fun z => hn (Or.inr z)))
  · cases h
theorem xm_ild_ch {nx : Nat} {L : xm_L} {st : List xm_V} {S : xm_S} {R : xm_R} {ins : Instr} (h : xm_ild nx L st S = some R) : xm_chR ins S R := by
  unfold xm_ild at h
  split at h
  · split at h
    · skip
      obtain ⟨j, hj, h⟩ := Option.bind_eq_some_iff.mp h
      cases h
      exact Or.inl rfl
    · cases h
  · cases h
theorem xm_zld_ch {nx : Nat} {L : xm_L} {st : List xm_V} {S : xm_S} {R : xm_R} {ins : Instr} (h : xm_zld nx L st S = some R) : xm_chR ins S R := by
  unfold xm_zld at h
  split at h
  · split at h
    · skip
      obtain ⟨j, hj, h⟩ := Option.bind_eq_some_iff.mp h
      cases h
      exact Or.inl rfl
    · cases h
  · cases h
theorem xm_ald_ch {nx : Nat} {L : xm_L} {st : List xm_V} {S : xm_S} {R : xm_R} {ins : Instr} (h : xm_ald nx L st S = some R) : xm_chR ins S R := by
  unfold xm_ald at h
  split at h
  · split at h
    · skip
      obtain ⟨j, hj, h⟩ := Option.bind_eq_some_iff.mp h
      cases h
      exact Or.inl rfl
    · cases h
  · cases h
theorem xm_alen_ch {nx : Nat} {L : xm_L} {st : List xm_V} {S : xm_S} {R : xm_R} {ins : Instr} (h : xm_alen nx L st S = some R) : xm_chR ins S R := by
  unfold xm_alen at h
  split at h
  · split at h
    · skip
      cases h
      exact Or.inl rfl
    · cases h
  · cases h
theorem xm_ist_ch {nx : Nat} {L : xm_L} {st : List xm_V} {S : xm_S} {R : xm_R} (h : xm_ist nx L st S = some R) : xm_chR .iastore S R := by
  unfold xm_ist at h
  split at h
  · split at h
    · obtain ⟨j, hj, h⟩ := Option.bind_eq_some_iff.mp h
      cases h
      exact Or.inr ⟨_, _, _, rfl⟩
    · cases h
  · cases h
theorem xm_zst_ch {nx : Nat} {L : xm_L} {st : List xm_V} {S : xm_S} {R : xm_R} (h : xm_zst nx L st S = some R) : xm_chR .bastore S R := by
  unfold xm_zst at h
  split at h
  · split at h
    · obtain ⟨j, hj, h⟩ := Option.bind_eq_some_iff.mp h
      cases h
      exact Or.inr ⟨_, _, _, rfl⟩
    · cases h
  · cases h
theorem xm_ast_ch {nx : Nat} {L : xm_L} {st : List xm_V} {S : xm_S} {R : xm_R} (h : xm_ast nx L st S = some R) : xm_chR .aastore S R := by
  unfold xm_ast at h
  split at h
  · split at h
    · obtain ⟨j, hj, h⟩ := Option.bind_eq_some_iff.mp h
      cases h
      exact Or.inr ⟨_, _, _, rfl⟩
    · cases h
  · cases h
theorem xm_intr_ch {q nx : Nat} {L : xm_L} {st : List xm_V} {S : xm_S} {R : xm_R} (hst : xm_alst S st) (h : xm_intr q nx L st S = some R) : ∃ p, R = .inl p ∧ (p.2.2.2 = S ∨ xm_chL S p.2.2.2) := by
  unfold xm_intr at h
  split at h
  · split at h
    · rename_i h0
      cases h
      exact ⟨_, rfl, Or.inr (Or.inl ⟨_, (hst.hd _ _ rfl).2, h0, rfl⟩)⟩
    · cases h
  · split at h
    · cases h
    · rename_i h0
      cases h
      exact ⟨_, rfl, Or.inr (Or.inr (Or.inl ⟨_, _, (hst.tl.hd _ _ rfl).2, fun z => h0 (Or.inl z), rfl⟩))⟩
  · obtain ⟨j, hj, h⟩ := Option.bind_eq_some_iff.mp h
    cases h
    exact ⟨_, rfl, Or.inl rfl⟩
  · split at h
    · cases h
    · obtain ⟨j, hj, h⟩ := Option.bind_eq_some_iff.mp h
      cases h
      exact ⟨_, rfl, Or.inr (Or.inr (Or.inr (Or.inl ⟨_, _, _, rfl⟩)))⟩
  · obtain ⟨j, hj, h⟩ := Option.bind_eq_some_iff.mp h
    cases h
    exact ⟨_, rfl, Or.inr (Or.inr (Or.inr (Or.inr ⟨_, _, rfl⟩)))⟩
  · cases h; exact ⟨_, rfl, Or.inl rfl⟩
  · cases h; exact ⟨_, rfl, Or.inl rfl⟩
  · cases h; exact ⟨_, rfl, Or.inl rfl⟩
  · cases h; exact ⟨_, rfl, Or.inl rfl⟩
  · cases h; exact ⟨_, rfl, Or.inl rfl⟩
  · cases h
theorem xm_call_ch {q nx : Nat} {L : xm_L} {st : List xm_V} {S : xm_S} {R : xm_R} {ins : Instr} (hi : xm_cq ins = some q) (hst : xm_alst S st) (hk : ∀ S1, xm_chL S S1 → xm_ch ins S S1) (h : xm_call q nx L st S = some R) : xm_chR ins S R := by
  unfold xm_call at h
  split at h
  · split at h
    · obtain ⟨p, rfl, e⟩ := xm_intr_ch hst h
      rcases e with e | e
      · exact Or.inl e
      · exact hk _ e
    · cases h
  · rename_i hq
    split at h
    · cases h
      exact ⟨q, hi, by omega, rfl⟩
    · cases h
set_option maxHeartbeats 2000000 in
theorem xm_step_ch (q : Instr × Nat) {L : xm_L} {st : List xm_V} {S : xm_S} {R : xm_R} (hst : xm_alst S st) (h : xm_step q L st S = some R) : xm_chR q.1 S R := by
  obtain ⟨ins, nx⟩ := q
  cases ins with
  | iconst x =>
    replace h : xm_nx nx L (.inl (Int32.ofInt x) :: st) S = some R := h
    cases h
    exact Or.inl rfl
  | aconst_null =>
    replace h : xm_nx nx L (.inr none :: st) S = some R := h
    cases h
    exact Or.inl rfl
  | iload i =>
    replace h : (match (generalizing := false) L[i]? with | some (some (.inl x)) => xm_nx nx L (.inl x :: st) S | _ => none) = some R := h
    split at h
    · rename_i hx
      cases h
      exact Or.inl rfl
    · cases h
  | aload i =>
    replace h : (match (generalizing := false) L[i]? with | some (some (.inr x)) => xm_nx nx L (.inr x :: st) S | _ => none) = some R := h
    split at h
    · rename_i hx
      cases h
      exact Or.inl rfl
    · cases h
  | istore i =>
    replace h : (match (generalizing := false) st with | .inl x :: st => if i < L.length then xm_nx nx (L.set i (some (.inl x))) st S else none | _ => none) = some R := h
    split at h
    · split at h
      · cases h
        exact Or.inl rfl
      · cases h
    · cases h
  | astore i =>
    replace h : (match (generalizing := false) st with | .inr x :: st => if i < L.length then xm_nx nx (L.set i (some (.inr x))) st S else none | _ => none) = some R := h
    split at h
    · split at h
      · cases h
        exact Or.inl rfl
      · cases h
    · cases h
  | iinc i n =>
    replace h : (match (generalizing := false) L[i]? with | some (some (.inl x)) => xm_nx nx (L.set i (some (.inl (x + Int32.ofInt n)))) st S | _ => none) = some R := h
    split at h
    · cases h
      exact Or.inl rfl
    · cases h
  | iadd =>
    replace h : (match (generalizing := false) st with | .inl y :: .inl x :: st => xm_nx nx L (.inl (x + y) :: st) S | _ => none) = some R := h
    split at h
    · cases h
      exact Or.inl rfl
    · cases h
  | isub =>
    replace h : (match (generalizing := false) st with | .inl y :: .inl x :: st => xm_nx nx L (.inl (x - y) :: st) S | _ => none) = some R := h
    split at h
    · cases h
      exact Or.inl rfl
    · cases h
  | imul =>
    replace h : (match (generalizing := false) st with | .inl y :: .inl x :: st => xm_nx nx L (.inl (x * y) :: st) S | _ => none) = some R := h
    split at h
    · cases h
      exact Or.inl rfl
    · cases h
  | iand =>
    replace h : (match (generalizing := false) st with | .inl y :: .inl x :: st => xm_nx nx L (.inl (x &&& y) :: st) S | _ => none) = some R := h
    split at h
    · cases h
      exact Or.inl rfl
    · cases h
  | ior =>
    replace h : (match (generalizing := false) st with | .inl y :: .inl x :: st => xm_nx nx L (.inl (x ||| y) :: st) S | _ => none) = some R := h
    split at h
    · cases h
      exact Or.inl rfl
    · cases h
  | ishl =>
    replace h : (match (generalizing := false) st with | .inl y :: .inl x :: st => xm_nx nx L (.inl (x <<< (y &&& 31)) :: st) S | _ => none) = some R := h
    split at h
    · cases h
      exact Or.inl rfl
    · cases h
  | irem =>
    replace h : (match (generalizing := false) st with | .inl y :: .inl x :: st => if y = 0 then none else xm_nx nx L (.inl (x - x / y * y) :: st) S | _ => none) = some R := h
    split at h
    · split at h
      · cases h
      · cases h
        exact Or.inl rfl
    · cases h
  | ineg =>
    replace h : (match (generalizing := false) st with | .inl x :: st => xm_nx nx L (.inl (-x) :: st) S | _ => none) = some R := h
    split at h
    · cases h
      exact Or.inl rfl
    · cases h
  | dup =>
    replace h : (match (generalizing := false) st with | v :: st => xm_nx nx L (v :: v :: st) S | _ => none) = some R := h
    split at h
    · cases h
      exact Or.inl rfl
    · cases h
  | dup_x1 =>
    replace h : (match (generalizing := false) st with | v :: w :: st => xm_nx nx L (v :: w :: v :: st) S | _ => none) = some R := h
    split at h
    · cases h
      exact Or.inl rfl
    · cases h
  | dup2 =>
    replace h : (match (generalizing := false) st with | v :: w :: st => xm_nx nx L (v :: w :: v :: w :: st) S | _ => none) = some R := h
    split at h
    · cases h
      exact Or.inl rfl
    · cases h
  | pop =>
    replace h : (match (generalizing := false) st with | _ :: st => xm_nx nx L st S | _ => none) = some R := h
    split at h
    · cases h
      exact Or.inl rfl
    · cases h
  | ifCond cd t =>
    replace h : (match (generalizing := false) st with | .inl x :: st => xm_nx (if xm_cmp cd x 0 = true then t.toNat else nx) L st S | _ => none) = some R := h
    split at h
    · cases h
      exact Or.inl rfl
    · cases h
  | if_icmp cd t =>
    replace h : (match (generalizing := false) st with | .inl y :: .inl x :: st => xm_nx (if xm_cmp cd x y = true then t.toNat else nx) L st S | _ => none) = some R := h
    split at h
    · cases h
      exact Or.inl rfl
    · cases h
  | if_acmp cd t =>
    cases cd with
    | eq =>
      replace h : (match (generalizing := false) st with | .inr y :: .inr x :: st => if xm_k12 x = true ∧ xm_k12 y = true then xm_nx (if x = y then t.toNat else nx) L st S else none | _ => none) = some R := h
      split at h
      · split at h
        · cases h
          exact Or.inl rfl
        · cases h
      · cases h
    | ne =>
      replace h : (match (generalizing := false) st with | .inr y :: .inr x :: st => if xm_k12 x = true ∧ xm_k12 y = true then xm_nx (if x = y then nx else t.toNat) L st S else none | _ => none) = some R := h
      split at h
      · split at h
        · cases h
          exact Or.inl rfl
        · cases h
      · cases h
  | ifnull t =>
    replace h : (match (generalizing := false) st with | .inr x :: st => xm_nx (if x = none then t.toNat else nx) L st S | _ => none) = some R := h
    split at h
    · cases h
      exact Or.inl rfl
    · cases h
  | ifnonnull t =>
    replace h : (match (generalizing := false) st with | .inr x :: st => xm_nx (if x = none then nx else t.toNat) L st S | _ => none) = some R := h
    split at h
    · cases h
      exact Or.inl rfl
    · cases h
  | goto t =>
    replace h : xm_nx t.toNat L st S = some R := h
    cases h
    exact Or.inl rfl
  | tableswitch d lo hi offs =>
    replace h : (match (generalizing := false) st with | .inl x :: st => xm_nx (if x.toInt < lo ∨ hi < x.toInt then d.toNat else (offs.getD (x.toInt - lo).toNat 0).toNat) L st S | _ => none) = some R := h
    split at h
    · cases h
      exact Or.inl rfl
    · cases h
  | lookupswitch d ps =>
    replace h : (match (generalizing := false) st with | .inl x :: st => xm_nx (Op.lookupswitch.offset ps.toList d x.toInt).toNat L st S | _ => none) = some R := h
    split at h
    · cases h
      exact Or.inl rfl
    · cases h
  | getfield f =>
    exact xm_getf_ch h
  | putfield f =>
    exact xm_putf_ch h
  | getstatic k =>
    replace h : xm_nx nx L (.inr (some (16, k)) :: st) S = some R := h
    cases h
    exact Or.inl rfl
  | new c =>
    replace h : xm_nx nx L (.inr (some (c, xm_n S 0 c)) :: st) (xm_mk c (xm_nf c) S) = some R := h
    cases h
    exact Or.inr rfl
  | newarray t =>
    cases t with
    | int => exact xm_newa_ch (fun N hN => Or.inr ⟨13, N, Or.inl rfl, hN, rfl⟩) h
    | boolean => exact xm_newa_ch (fun N hN => Or.inr ⟨14, N, Or.inr rfl, hN, rfl⟩) h
    | _ => cases h
  | anewarray j => exact xm_newa_ch (fun N hN => Or.inr ⟨N, hN, rfl⟩) h
  | iaload => exact xm_ild_ch h
  | baload => exact xm_zld_ch h
  | aaload => exact xm_ald_ch h
  | iastore => exact xm_ist_ch h
  | bastore => exact xm_zst_ch h
  | aastore => exact xm_ast_ch h
  | arraylength => exact xm_alen_ch h
  | checkcast c =>
    replace h : (match (generalizing := false) st with | .inr none :: _ => xm_nx nx L st S | .inr (some (d, _)) :: _ => if d = c then xm_nx nx L st S else none | _ => none) = some R := h
    split at h
    · cases h
      exact Or.inl rfl
    · split at h
      · cases h
        exact Or.inl rfl
      · cases h
    · cases h
  | invokevirtual j => exact xm_call_ch (ins := .invokevirtual j) rfl hst (fun _ z => Or.inr z) h
  | invokespecial j => exact xm_call_ch (ins := .invokespecial j) rfl hst (fun _ z => Or.inr z) h
  | invokestatic j => exact xm_call_ch (ins := .invokestatic j) rfl hst (fun _ z => Or.inr z) h
  | ireturn =>
    replace h : (match (generalizing := false) st with | [.inl x] => some (.inr (.inl (some (.inl x)))) | _ => none) = some R := h
    split at h
    · cases h
      trivial
    · cases h
  | freturn =>
    replace h : (match (generalizing := false) st with | [.inl x] => if x = 0 ∨ x = 1 then some (.inr (.inl (some (.inl x)))) else none | _ => none) = some R := h
    split at h
    · split at h
      · cases h
        trivial
      · cases h
    · cases h
  | areturn =>
    replace h : (match (generalizing := false) st with | [.inr x] => some (.inr (.inl (some (.inr x)))) | _ => none) = some R := h
    split at h
    · cases h
      trivial
    · cases h
  | return_ =>
    replace h : (match (generalizing := false) st with | [] => some (.inr (.inl none)) | _ => none) = some R := h
    split at h
    · cases h
      trivial
    · cases h
  | _ => cases h

/-- what every step keeps, every run keeps -/
theorem xm_exec_fr {T : xm_S → xm_S → Prop} (hrf : ∀ S, T S S) (htr : ∀ S S1 S2, T S S1 → T S1 S2 → T S S2) (hP : ∀ mi pc, xm_wf (xm_P mi pc).1 = true) (M : Nat → Prop) (hM : ∀ mi pc, M mi → ∀ S S1, xm_ch (xm_P mi pc).1 S S1 → T S S1) (hc : ∀ mi pc j, M mi → xm_cq (xm_P mi pc).1 = some j → j < 256000 → M (j / 256)) : ∀ (n d mi pc : Nat) (L : xm_L) (st : List xm_V) (S : xm_S) (x : Option xm_V × xm_S), M mi → xm_al S → xm_alL S L → xm_alst S st → xm_exec xm_P xm_ML n d mi pc L st S = some x → T S x.2 := by
  intro n
  induction n with
  | zero => intro d mi pc L st S x _ _ _ _ h; simp [xm_exec] at h
  | succ n ih =>
    intro d mi pc L st S x hm hS hL hst h
    rw [xm_exec_s] at h
    rcases hq : xm_step (xm_P mi pc) L st S with _ | (q | (r | q))
    · rw [hq] at h
      cases h
    · rw [hq] at h
      obtain ⟨a, b, c, e⟩ := xm_step_al _ (hP mi pc) hS hL hst hq
      have k := xm_step_ch _ hst hq
      exact htr _ _ _ (hM mi pc hm _ _ k) (ih _ _ _ _ _ _ _ hm b c e h)
    · rw [hq] at h
      cases h
      exact hrf S
    · rw [hq] at h
      replace h : (if d = 0 then none else (xm_exec xm_P xm_ML n (d - 1) q.1 0 (q.2.1.map some ++ List.replicate (xm_ML q.1 - q.2.1.length) none) [] S).bind fun z => xm_exec xm_P xm_ML n d mi q.2.2.1 q.2.2.2.1 (z.1.toList ++ q.2.2.2.2) z.2) = some x := h
      obtain ⟨ha, hL2, hr⟩ := xm_step_al _ (hP mi pc) hS hL hst hq
      obtain ⟨j, hj1, hj2, hj3⟩ := xm_step_ch _ hst hq
      split at h
      · cases h
      · obtain ⟨z, hz, h⟩ := Option.bind_eq_some_iff.mp h
        have hLn : xm_alL S (q.2.1.map some ++ List.replicate (xm_ML q.1 - q.2.1.length) none) := fun v hv => by
          rcases List.mem_append.mp hv with hv | hv
          · obtain ⟨w, hw, e⟩ := List.mem_map.mp hv
            cases e
            exact ha _ hw
          · exact absurd (List.eq_of_mem_replicate hv) (by simp)
        obtain ⟨a1, b1, c1⟩ := xm_exec_al hP _ _ _ _ _ _ _ _ hS hLn (xm_alst.nil S) hz
        have hst2 : xm_alst z.2 (z.1.toList ++ q.2.2.2.2) := fun v hv => by
          rcases List.mem_append.mp hv with hv | hv
          · exact c1 v (Option.mem_toList.mp hv)
          · exact (hr v hv).up a1
        have k1 := ih _ _ _ _ _ _ _ (hj3 ▸ hc mi pc j hm hj1 hj2) hS hLn (xm_alst.nil S) hz
        have k2 := ih _ _ _ _ _ _ _ hm b1 (xm_alL.up a1 hL2) hst2 h
        exact htr _ _ _ k1 k2
end
