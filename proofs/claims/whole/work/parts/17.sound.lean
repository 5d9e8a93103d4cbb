/-! ===== what kind of thing a step comes to ===== -/
set_option maxHeartbeats 2000000 in
theorem xm_kind {ins : Instr} {nx : Nat} {L : xm_L} {st : List xm_V} {S : xm_S} {R : xm_R} (h : xm_step (ins, nx) L st S = some R) : (∃ X, R = .inl X) ∨ (ins = .ireturn ∨ ins = .freturn ∨ ins = .areturn ∨ ins = .return_) ∨ ((∃ q, ins = .invokevirtual q) ∨ (∃ q, ins = .invokespecial q) ∨ ∃ q, ins = .invokestatic q) := by
  cases ins with
  | iconst x =>
    replace h : xm_nx nx L (.inl (Int32.ofInt x) :: st) S = some R := h
    cases h
    exact Or.inl ⟨_, rfl⟩
  | aconst_null =>
    replace h : xm_nx nx L (.inr none :: st) S = some R := h
    cases h
    exact Or.inl ⟨_, rfl⟩
  | iload i =>
    replace h : (match (generalizing := false) L[i]? with | some (some (.inl x)) => xm_nx nx L (.inl x :: st) S | _ => none) = some R := h
    split at h
    · cases h
      exact Or.inl ⟨_, rfl⟩
    · cases h
  | aload i =>
    replace h : (match (generalizing := false) L[i]? with | some (some (.inr x)) => xm_nx nx L (.inr x :: st) S | _ => none) = some R := h
    split at h
    · cases h
      exact Or.inl ⟨_, rfl⟩
    · cases h
  | istore i =>
    replace h : (match (generalizing := false) st with | .inl x :: st => if i < L.length then xm_nx nx (L.set i (some (.inl x))) st S else none | _ => none) = some R := h
    split at h
    · split at h
      · cases h
        exact Or.inl ⟨_, rfl⟩
      · cases h
    · cases h
  | astore i =>
    replace h : (match (generalizing := false) st with | .inr x :: st => if i < L.length then xm_nx nx (L.set i (some (.inr x))) st S else none | _ => none) = some R := h
    split at h
    · split at h
      · cases h
        exact Or.inl ⟨_, rfl⟩
      · cases h
    · cases h
  | iinc i n =>
    replace h : (match (generalizing := false) L[i]? with | some (some (.inl x)) => xm_nx nx (L.set i (some (.inl (x + Int32.ofInt n)))) st S | _ => none) = some R := h
    split at h
    · cases h
      exact Or.inl ⟨_, rfl⟩
    · cases h
  | iadd =>
    replace h : (match (generalizing := false) st with | .inl y :: .inl x :: st => xm_nx nx L (.inl (x + y) :: st) S | _ => none) = some R := h
    split at h
    · cases h
      exact Or.inl ⟨_, rfl⟩
    · cases h
  | isub =>
    replace h : (match (generalizing := false) st with | .inl y :: .inl x :: st => xm_nx nx L (.inl (x - y) :: st) S | _ => none) = some R := h
    split at h
    · cases h
      exact Or.inl ⟨_, rfl⟩
    · cases h
  | imul =>
    replace h : (match (generalizing := false) st with | .inl y :: .inl x :: st => xm_nx nx L (.inl (x * y) :: st) S | _ => none) = some R := h
    split at h
    · cases h
      exact Or.inl ⟨_, rfl⟩
    · cases h
  | iand =>
    replace h : (match (generalizing := false) st with | .inl y :: .inl x :: st => xm_nx nx L (.inl (x &&& y) :: st) S | _ => none) = some R := h
    split at h
    · cases h
      exact Or.inl ⟨_, rfl⟩
    · cases h
  | ior =>
    replace h : (match (generalizing := false) st with | .inl y :: .inl x :: st => xm_nx nx L (.inl (x ||| y) :: st) S | _ => none) = some R := h
    split at h
    · cases h
      exact Or.inl ⟨_, rfl⟩
    · cases h
  | ishl =>
    replace h : (match (generalizing := false) st with | .inl y :: .inl x :: st => xm_nx nx L (.inl (x <<< (y &&& 31)) :: st) S | _ => none) = some R := h
    split at h
    · cases h
      exact Or.inl ⟨_, rfl⟩
    · cases h
  | irem =>
    replace h : (match (generalizing := false) st with | .inl y :: .inl x :: st => if y = 0 then none else xm_nx nx L (.inl (x - x / y * y) :: st) S | _ => none) = some R := h
    split at h
    · split at h
      · cases h
      · cases h
        exact Or.inl ⟨_, rfl⟩
    · cases h
  | ineg =>
    replace h : (match (generalizing := false) st with | .inl x :: st => xm_nx nx L (.inl (-x) :: st) S | _ => none) = some R := h
    split at h
    · cases h
      exact Or.inl ⟨_, rfl⟩
    · cases h
  | dup =>
    replace h : (match (generalizing := false) st with | v :: st => xm_nx nx L (v :: v :: st) S | _ => none) = some R := h
    split at h
    · cases h
      exact Or.inl ⟨_, rfl⟩
    · cases h
  | dup_x1 =>
    replace h : (match (generalizing := false) st with | v :: w :: st => xm_nx nx L (v :: w :: v :: st) S | _ => none) = some R := h
    split at h
    · cases h
      exact Or.inl ⟨_, rfl⟩
    · cases h
  | dup2 =>
    replace h : (match (generalizing := false) st with | v :: w :: st => xm_nx nx L (v :: w :: v :: w :: st) S | _ => none) = some R := h
    split at h
    · cases h
      exact Or.inl ⟨_, rfl⟩
    · cases h
  | pop =>
    replace h : (match (generalizing := false) st with | _ :: st => xm_nx nx L (st) S | _ => none) = some R := h
    split at h
    · cases h
      exact Or.inl ⟨_, rfl⟩
    · cases h
  | ifCond cd t =>
    replace h : (match (generalizing := false) st with | .inl x :: st => xm_nx (if xm_cmp cd x 0 = true then t.toNat else nx) L st S | _ => none) = some R := h
    split at h
    · cases h
      exact Or.inl ⟨_, rfl⟩
    · cases h
  | if_icmp cd t =>
    replace h : (match (generalizing := false) st with | .inl y :: .inl x :: st => xm_nx (if xm_cmp cd x y = true then t.toNat else nx) L st S | _ => none) = some R := h
    split at h
    · cases h
      exact Or.inl ⟨_, rfl⟩
    · cases h
  | if_acmp cd t =>
    cases cd with
    | eq =>
      replace h : (match (generalizing := false) st with | .inr y :: .inr x :: st => if xm_k12 x = true ∧ xm_k12 y = true then xm_nx (if x = y then t.toNat else nx) L st S else none | _ => none) = some R := h
      split at h
      · split at h
        · cases h
          exact Or.inl ⟨_, rfl⟩
        · cases h
      · cases h
    | ne =>
      replace h : (match (generalizing := false) st with | .inr y :: .inr x :: st => if xm_k12 x = true ∧ xm_k12 y = true then xm_nx (if x = y then nx else t.toNat) L st S else none | _ => none) = some R := h
      split at h
      · split at h
        · cases h
          exact Or.inl ⟨_, rfl⟩
        · cases h
      · cases h
  | ifnull t =>
    replace h : (match (generalizing := false) st with | .inr x :: st => xm_nx (if x = none then t.toNat else nx) L st S | _ => none) = some R := h
    split at h
    · cases h
      exact Or.inl ⟨_, rfl⟩
    · cases h
  | ifnonnull t =>
    replace h : (match (generalizing := false) st with | .inr x :: st => xm_nx (if x = none then nx else t.toNat) L st S | _ => none) = some R := h
    split at h
    · cases h
      exact Or.inl ⟨_, rfl⟩
    · cases h
  | goto t =>
    replace h : xm_nx t.toNat L st S = some R := h
    cases h
    exact Or.inl ⟨_, rfl⟩
  | tableswitch d lo hi offs =>
    replace h : (match (generalizing := false) st with | .inl x :: st => xm_nx (if x.toInt < lo ∨ hi < x.toInt then d.toNat else (offs.getD (x.toInt - lo).toNat 0).toNat) L st S | _ => none) = some R := h
    split at h
    · cases h
      exact Or.inl ⟨_, rfl⟩
    · cases h
  | lookupswitch d ps =>
    replace h : (match (generalizing := false) st with | .inl x :: st => xm_nx (Op.lookupswitch.offset ps.toList d x.toInt).toNat L st S | _ => none) = some R := h
    split at h
    · cases h
      exact Or.inl ⟨_, rfl⟩
    · cases h
  | getfield f =>
    replace h : xm_getf f nx L st S = some R := h
    unfold xm_getf at h
    split at h
    · split at h
      · split at h
        · cases h
          exact Or.inl ⟨_, rfl⟩
        · cases h
          exact Or.inl ⟨_, rfl⟩
      · cases h
    · cases h
  | putfield f =>
    replace h : xm_putf f nx L st S = some R := h
    unfold xm_putf at h
    split at h
    · split at h
      · cases h
        exact Or.inl ⟨_, rfl⟩
      · cases h
    · split at h
      · cases h
        exact Or.inl ⟨_, rfl⟩
      · cases h
    · split at h
      · cases h
        exact Or.inl ⟨_, rfl⟩
      · cases h
    · cases h
  | getstatic k =>
    replace h : xm_nx nx L (.inr (some (16, k)) :: st) S = some R := h
    cases h
    exact Or.inl ⟨_, rfl⟩
  | new c =>
    replace h : xm_nx nx L (.inr (some (c, xm_n S 0 c)) :: st) (xm_mk c (xm_nf c) S) = some R := h
    cases h
    exact Or.inl ⟨_, rfl⟩
  | newarray t =>
    cases t with
    | int =>
      replace h : xm_newa 13 nx L st S = some R := h
      unfold xm_newa at h
      split at h
      · split at h
        · cases h
        · cases h
          exact Or.inl ⟨_, rfl⟩
      · cases h
    | boolean =>
      replace h : xm_newa 14 nx L st S = some R := h
      unfold xm_newa at h
      split at h
      · split at h
        · cases h
        · cases h
          exact Or.inl ⟨_, rfl⟩
      · cases h
    | _ => cases h
  | anewarray j =>
    replace h : xm_newa 15 nx L st S = some R := h
    unfold xm_newa at h
    split at h
    · split at h
      · cases h
      · cases h
        exact Or.inl ⟨_, rfl⟩
    · cases h
  | iaload =>
    replace h : xm_ild nx L st S = some R := h
    unfold xm_ild at h
    split at h
    · split at h
      · obtain ⟨j, hj, h⟩ := Option.bind_eq_some_iff.mp h
        cases h
        exact Or.inl ⟨_, rfl⟩
      · cases h
    · cases h
  | baload =>
    replace h : xm_zld nx L st S = some R := h
    unfold xm_zld at h
    split at h
    · split at h
      · obtain ⟨j, hj, h⟩ := Option.bind_eq_some_iff.mp h
        cases h
        exact Or.inl ⟨_, rfl⟩
      · cases h
    · cases h
  | aaload =>
    replace h : xm_ald nx L st S = some R := h
    unfold xm_ald at h
    split at h
    · split at h
      · obtain ⟨j, hj, h⟩ := Option.bind_eq_some_iff.mp h
        cases h
        exact Or.inl ⟨_, rfl⟩
      · cases h
    · cases h
  | iastore =>
    replace h : xm_ist nx L st S = some R := h
    unfold xm_ist at h
    split at h
    · split at h
      · obtain ⟨j, hj, h⟩ := Option.bind_eq_some_iff.mp h
        cases h
        exact Or.inl ⟨_, rfl⟩
      · cases h
    · cases h
  | bastore =>
    replace h : xm_zst nx L st S = some R := h
    unfold xm_zst at h
    split at h
    · split at h
      · obtain ⟨j, hj, h⟩ := Option.bind_eq_some_iff.mp h
        cases h
        exact Or.inl ⟨_, rfl⟩
      · cases h
    · cases h
  | aastore =>
    replace h : xm_ast nx L st S = some R := h
    unfold xm_ast at h
    split at h
    · split at h
      · obtain ⟨j, hj, h⟩ := Option.bind_eq_some_iff.mp h
        cases h
        exact Or.inl ⟨_, rfl⟩
      · cases h
    · cases h
  | arraylength =>
    replace h : xm_alen nx L st S = some R := h
    unfold xm_alen at h
    split at h
    · split at h
      · cases h
        exact Or.inl ⟨_, rfl⟩
      · cases h
    · cases h
  | checkcast c =>
    replace h : (match (generalizing := false) st with | .inr none :: _ => xm_nx nx L st S | .inr (some (d, _)) :: _ => if d = c then xm_nx nx L st S else none | _ => none) = some R := h
    split at h
    · cases h
      exact Or.inl ⟨_, rfl⟩
    · split at h
      · cases h
        exact Or.inl ⟨_, rfl⟩
      · cases h
    · cases h
  | invokevirtual j => exact Or.inr (Or.inr (Or.inl ⟨j, rfl⟩))
  | invokespecial j => exact Or.inr (Or.inr (Or.inr (Or.inl ⟨j, rfl⟩)))
  | invokestatic j => exact Or.inr (Or.inr (Or.inr (Or.inr ⟨j, rfl⟩)))
  | ireturn => exact Or.inr (Or.inl (Or.inl rfl))
  | freturn => exact Or.inr (Or.inl (Or.inr (Or.inl rfl)))
  | areturn => exact Or.inr (Or.inl (Or.inr (Or.inr (Or.inl rfl))))
  | return_ => exact Or.inr (Or.inl (Or.inr (Or.inr (Or.inr rfl))))
  | _ => cases h
/-! ===== runs of the abstract machine are runs of the machine ===== -/
theorem xm_P_out {mi pc : Nat} (h : ¬ (mi < 183 ∧ pc < xm_sz mi)) : xm_P mi pc = (.athrow, 0) := by
  unfold xm_P
  rw [if_neg h]
theorem xm_chk_at {mi pc : Nat} (hck : xm_chk mi = true) (hq : (xm_P mi pc).1 ≠ .athrow) : ∃ raw len, decode (xm_B mi) pc = .ok (raw, len) ∧ (xm_P mi pc).2 = pc + len ∧ (xm_il raw = 0 ∨ len = xm_il raw) ∧ xm_lk (xm_ow mi) pc (decide ((xm_Y mi).name = "<init>")) (xm_rt mi) raw (xm_P mi pc).1 = true := by
  have hlt : mi < 183 ∧ pc < xm_sz mi := by
    by_cases h : mi < 183 ∧ pc < xm_sz mi
    · exact h
    · rw [xm_P_out h] at hq
      exact absurd rfl hq
  unfold xm_chk at hck
  unfold xm_B xm_ow xm_Y xm_rt
  split at hck
  · rename_i q hm
    rw [hm]
    obtain ⟨-, hck⟩ := Bool.and_eq_true_iff.mp hck
    obtain ⟨-, hck⟩ := Bool.and_eq_true_iff.mp hck
    have h1 := List.all_eq_true.mp hck pc (List.mem_range.mpr hlt.2)
    unfold xm_at1 at h1
    rcases Bool.or_eq_true_iff.mp h1 with h1 | h1
    · rw [of_decide_eq_true h1] at hq
      exact absurd rfl hq
    · split at h1
      · rename_i raw len hd
        obtain ⟨a1, h1⟩ := Bool.and_eq_true_iff.mp h1
        obtain ⟨a2, a3⟩ := Bool.and_eq_true_iff.mp h1
        exact ⟨raw, len, hd, of_decide_eq_true a1, of_decide_eq_true a2, a3⟩
      · cases h1
  · cases hck
theorem xm_lk_wf {o pc : Nat} {ini : Bool} {rt : Option FieldType} {raw ins : Instr} (hk : xm_lk o pc ini rt raw ins = true) : xm_wf ins = true := by
  cases ins with
  | getfield f =>
    cases raw with
    | getfield j => exact (Bool.and_eq_true_iff.mp (show (xm_has xm_fl o j f && xm_wf (.getfield f)) = true from hk)).2
    | _ => cases hk
  | putfield f =>
    cases raw with
    | putfield j => exact (Bool.and_eq_true_iff.mp (Bool.and_eq_true_iff.mp (show (xm_has xm_fl o j f && (xm_wf (.putfield f) && (!(xm_fin (f / 8192) (f / 32 % 256)) || (ini && decide (o = f / 8192))))) = true from hk)).2).1
    | _ => cases hk
  | getstatic f =>
    cases raw with
    | getstatic j => exact (Bool.and_eq_true_iff.mp (show (xm_has xm_sl_ o j f && decide (f < 7)) = true from hk)).2
    | _ => cases hk
  | new c =>
    cases raw with
    | new j => exact (Bool.and_eq_true_iff.mp (show (xm_has xm_kl o j c && decide (c ≤ 12)) = true from hk)).2
    | _ => cases hk
  | _ => rfl
theorem xm_P_wf (hck : ∀ mi, mi < 183 → xm_chk mi = true) (mi pc : Nat) : xm_wf (xm_P mi pc).1 = true := by
  by_cases hq : (xm_P mi pc).1 = .athrow
  · rw [hq]
    rfl
  · by_cases h : mi < 183 ∧ pc < xm_sz mi
    · obtain ⟨raw, len, -, -, -, h4⟩ := xm_chk_at (hck mi h.1) hq
      exact xm_lk_wf h4
    · rw [xm_P_out h]
      rfl
/-- where a method ends with an answer -/
def xm_Ret (mi pc : Nat) (r : Option xm_V) : Prop := match r with
  | none => decode (xm_B mi) pc = .ok (.return_, 1) ∧ xm_rt mi = none
  | some (.inl x) => decode (xm_B mi) pc = .ok (.ireturn, 1) ∧ (xm_rt mi = some .int ∨ xm_rt mi = some .boolean ∧ (x = 0 ∨ x = 1))
  | some (.inr _) => decode (xm_B mi) pc = .ok (.areturn, 1) ∧ ∃ C, xm_rt mi = some (.object C)
theorem xm_call_noret {ins : Instr} {nx : Nat} {L : xm_L} {st : List xm_V} {S : xm_S} {r : Option xm_V} (hx : (∃ q, ins = .invokevirtual q) ∨ (∃ q, ins = .invokespecial q) ∨ ∃ q, ins = .invokestatic q) : ¬ xm_step (ins, nx) L st S = some (.inr (.inl r)) := by
  intro h
  have key : ∀ q, xm_call q nx L st S = some (.inr (.inl r)) → False := by
    intro q h
    unfold xm_call at h
    split at h
    · split at h
      · obtain ⟨X, hX, -⟩ := xm_intr_inl h
        cases hX
      · cases h
    · split at h
      · cases h
      · cases h
  rcases hx with ⟨q, rfl⟩ | ⟨q, rfl⟩ | ⟨q, rfl⟩ <;> exact key q h
theorem xm_ret_of {mi pc : Nat} {o len nx : Nat} {ini : Bool} {raw ins : Instr} {L : xm_L} {st : List xm_V} {S : xm_S} {r : Option xm_V} (hd : decode (xm_B mi) pc = .ok (raw, len)) (hil : xm_il raw = 0 ∨ len = xm_il raw) (hk : xm_lk o pc ini (xm_rt mi) raw ins = true) (h : xm_step (ins, nx) L st S = some (.inr (.inl r))) : xm_Ret mi pc r ∧ st = r.toList := by
  cases ins with
  | ireturn =>
    replace h : ((match (generalizing := false) st with | [.inl x] => some (.inr (.inl (some (.inl x)))) | _ => none) : Option xm_R) = some (.inr (.inl r)) := h
    obtain ⟨e1, e2⟩ := Bool.and_eq_true_iff.mp (show (decide (raw = .ireturn) && decide (xm_rt mi = some .int)) = true from hk)
    have e1 := of_decide_eq_true e1
    subst e1
    obtain rfl := xm_il1 hil rfl
    split at h
    · cases h
      exact ⟨⟨hd, Or.inl (of_decide_eq_true e2)⟩, rfl⟩
    · cases h
  | freturn =>
    replace h : ((match (generalizing := false) st with | [.inl x] => if x = 0 ∨ x = 1 then some (.inr (.inl (some (.inl x)))) else none | _ => none) : Option xm_R) = some (.inr (.inl r)) := h
    obtain ⟨e1, e2⟩ := Bool.and_eq_true_iff.mp (show (decide (raw = .ireturn) && decide (xm_rt mi = some .boolean)) = true from hk)
    have e1 := of_decide_eq_true e1
    subst e1
    obtain rfl := xm_il1 hil rfl
    split at h
    · split at h
      · rename_i h01
        cases h
        exact ⟨⟨hd, Or.inr ⟨of_decide_eq_true e2, h01⟩⟩, rfl⟩
      · cases h
    · cases h
  | areturn =>
    replace h : ((match (generalizing := false) st with | [.inr x] => some (.inr (.inl (some (.inr x)))) | _ => none) : Option xm_R) = some (.inr (.inl r)) := h
    obtain ⟨e1, e2⟩ := Bool.and_eq_true_iff.mp (show (decide (raw = .areturn) && (match xm_rt mi with | some (.object _) => true | _ => false)) = true from hk)
    have e1 := of_decide_eq_true e1
    subst e1
    obtain rfl := xm_il1 hil rfl
    split at h
    · cases h
      refine ⟨⟨hd, ?_⟩, rfl⟩
      split at e2
      · rename_i C hC
        exact ⟨C, hC⟩
      · cases e2
    · cases h
  | return_ =>
    replace h : ((match (generalizing := false) st with | [] => some (.inr (.inl none)) | _ => none) : Option xm_R) = some (.inr (.inl r)) := h
    obtain ⟨e1, e2⟩ := Bool.and_eq_true_iff.mp (show (decide (raw = .return_) && decide (xm_rt mi = none)) = true from hk)
    have e1 := of_decide_eq_true e1
    subst e1
    obtain rfl := xm_il1 hil rfl
    split at h
    · cases h
      exact ⟨⟨hd, of_decide_eq_true e2⟩, rfl⟩
    · cases h
  | _ =>
    rcases xm_kind h with ⟨X, hX⟩ | hx | hx
    · cases hX
    · rcases hx with hx | hx | hx | hx <;> cases hx
    · exact absurd h (xm_call_noret hx)
/-- a call that the abstract machine makes -/
theorem xm_call_of {ins : Instr} {nx : Nat} {L : xm_L} {st : List xm_V} {S : xm_S} {z : Nat × List xm_V × Nat × xm_L × List xm_V} (h : xm_step (ins, nx) L st S = some (.inr (.inr z))) : ∃ q, (ins = .invokevirtual q ∨ ins = .invokespecial q ∨ ins = .invokestatic q) ∧ q < 256000 ∧ z = (q / 256, (st.take (q / 16 % 16)).reverse, nx, L, st.drop (q / 16 % 16)) ∧ q / 16 % 16 ≤ st.length ∧ st.length ≤ q / 16 % 16 + 6 ∧ xm_rcv (q % 16) (st.take (q / 16 % 16)).reverse = true := by
  have key : ∀ q, xm_call q nx L st S = some (.inr (.inr z)) → q < 256000 ∧ z = (q / 256, (st.take (q / 16 % 16)).reverse, nx, L, st.drop (q / 16 % 16)) ∧ q / 16 % 16 ≤ st.length ∧ st.length ≤ q / 16 % 16 + 6 ∧ xm_rcv (q % 16) (st.take (q / 16 % 16)).reverse = true := by
    intro q h
    unfold xm_call at h
    split at h
    · split at h
      · obtain ⟨X, hX, -⟩ := xm_intr_inl h
        cases hX
      · cases h
    · rename_i hq
      split at h
      · rename_i hc
        cases h
        exact ⟨by omega, rfl, hc.1.1, hc.1.2, hc.2⟩
      · cases h
  rcases xm_kind h with ⟨X, hX⟩ | hx | hx
  · cases hX
  · rcases hx with rfl | rfl | rfl | rfl
    · replace h : ((match (generalizing := false) st with | [.inl x] => some (.inr (.inl (some (.inl x)))) | _ => none) : Option xm_R) = some (.inr (.inr z)) := h
      split at h <;> cases h
    · replace h : ((match (generalizing := false) st with | [.inl x] => if x = 0 ∨ x = 1 then some (.inr (.inl (some (.inl x)))) else none | _ => none) : Option xm_R) = some (.inr (.inr z)) := h
      split at h
      · split at h <;> cases h
      · cases h
    · replace h : ((match (generalizing := false) st with | [.inr x] => some (.inr (.inl (some (.inr x)))) | _ => none) : Option xm_R) = some (.inr (.inr z)) := h
      split at h <;> cases h
    · replace h : ((match (generalizing := false) st with | [] => some (.inr (.inl none)) | _ => none) : Option xm_R) = some (.inr (.inr z)) := h
      split at h <;> cases h
  · rcases hx with ⟨q, rfl⟩ | ⟨q, rfl⟩ | ⟨q, rfl⟩
    · exact ⟨q, Or.inl rfl, key q h⟩
    · exact ⟨q, Or.inr (Or.inl rfl), key q h⟩
    · exact ⟨q, Or.inr (Or.inr rfl), key q h⟩
theorem xm_lv_args (α : Nat → Nat → Nat) : ∀ (as : List xm_V) (k i : Nat) (v : xm_V), as[i]? = some v → (k + i, xm_conc α v) ∈ lv_args k (as.map (xm_conc α)) := by
  intro as
  induction as with
  | nil => intro k i v h; simp at h
  | cons a t ih =>
    intro k i v h
    cases i with
    | zero =>
      simp only [List.getElem?_cons_zero, Option.some.injEq] at h
      subst h
      exact List.mem_cons_self
    | succ i =>
      simp only [List.getElem?_cons_succ] at h
      have := ih (k + 1) i v h
      refine List.mem_cons_of_mem _ ?_
      rw [if_neg (by rw [xm_conc_cat]; decide)]
      rw [show k + (i + 1) = k + 1 + i by omega]
      exact this
theorem xm_sl_len (α : Nat → Nat → Nat) (as : List xm_V) : (lg_sl (as.map (xm_conc α))).length = as.length := by
  induction as with
  | nil => rfl
  | cons a t ih =>
    unfold lg_sl at ih ⊢
    simp only [List.map_cons, List.flatMap_cons, List.length_append, List.length_cons]
    rw [ih, if_neg (by rw [xm_conc_cat]; decide)]
    simp
    omega
theorem xm_entry (α : Nat → Nat → Nat) {as : List xm_V} {n : Nat} (h : as.length ≤ n) : lv_has ((lg_sl (as.map (xm_conc α)) ++ List.replicate (n - (lg_sl (as.map (xm_conc α))).length) Slot.unset).toArray) n (xm_lvs α (as.map some ++ List.replicate (n - as.length) none)) := by
  obtain ⟨h1, h2, h3⟩ := lv_entry (as.map (xm_conc α)) (n := n) (by rw [xm_sl_len]; exact h)
  refine ⟨h1, h2, fun q hq => h3 q ?_⟩
  obtain ⟨i, w⟩ := q
  obtain ⟨v, hv, rfl⟩ := xm_lvs_mem.mp hq
  have hi : i < as.length := by
    rcases Nat.lt_or_ge i as.length with g | g
    · exact g
    · rw [List.getElem?_append_right (by rw [List.length_map]; exact g)] at hv
      have hm := List.mem_of_getElem? hv
      exact absurd (List.eq_of_mem_replicate hm) (by simp)
  rw [List.getElem?_append_left (by rw [List.length_map]; exact hi), List.getElem?_map] at hv
  have h4 : as[i]? = some v := by
    cases hz : as[i]? with
    | none => rw [hz] at hv; cases hv
    | some z => rw [hz] at hv; cases hv; rfl
  have := xm_lv_args α as 0 i v h4
  rw [Nat.zero_add] at this
  exact this
/-- soundness at fuel n -/
def xm_Snd (l : Launch) (D : va_G) (g : xm_G) (α : Nat → Nat → Nat) (base n : Nat) : Prop := ∀ (d mi pc : Nat) (L : xm_L) (st : List xm_V) (S : xm_S) (r : Option xm_V) (S' : xm_S), xm_exec xm_P xm_ML n d mi pc L st S = some (r, S') → mi < 183 → xm_al S → xm_alL S L → xm_alst S st → L.length = xm_ML mi → (∀ c k, c ≤ 15 → k < xm_n S' 0 c → α c k = xm_a S' c k) →
  ∀ (p : Program) (e : Env) (R : Room) (s : State) (m : MethodId) (args : Array Value) (below : List Frame) (meth : Method) (c : Code) (Q : State → Prop) (t0 : Nat), xm_ctx p s m args c (xm_B mi) (xm_ML mi) (xm_ow mi) → xm_env D g α base s → ((xm_Y mi).name = "<init>" → meth.name = "<init>") → t0 ≤ xm_n S 0 101 → d + 10 ≤ R.frames → 40 * (d + 10) ≤ R.locals → xm_n S' 0 100 - s.heap.size ≤ R.cells → xm_n S' 0 101 - t0 ≤ R.slots →
  (∀ (pc' : Nat) (H' : Heap) (locs' : List Loc) (ls' : Array Slot), xm_Ret mi pc' r → xm_rel D g α base S' s H' → va_S (fun q => base ≤ q) s.heap H' locs' → W p l e R s m args below meth c H' locs' (xm_n S' 0 100 - s.heap.size) (xm_n S' 0 101 - t0) Q (F0 m pc' ls' (r.map (xm_conc α)).toList)) →
  xm_W p l e R s m args below meth c Q (xm_ML mi) D g α base t0 pc L st S
/-- a method's contract, out of soundness -/
theorem xm_met {l : Launch} {D : va_G} {g : xm_G} {α : Nat → Nat → Nat} {base n : Nat} (hn : xm_Snd l D g α base n) {d mj : Nat} {as : List xm_V} {S S' : xm_S} {r : Option xm_V} (hx : xm_exec xm_P xm_ML n d mj 0 (as.map some ++ List.replicate (xm_ML mj - as.length) none) [] S = some (r, S')) (hj : mj < 182) (hna : as.length ≤ xm_ML mj) (hal : xm_al S) (has : xm_alst S as) (hle : xm_le S S') (hα : ∀ c k, c ≤ 15 → k < xm_n S' 0 c → α c k = xm_a S' c k) : xm_Met l D g α base d mj as S r S' := by
  obtain ⟨m1, m2, m3, m4, m5, m6, m7, m8⟩ := xm_mf hj
  refine Met.ofW (cc := xm_B mj) (maxL := xm_ML mj) (ret := xm_rt mj) m3 rfl ?_
  intro p e s m args below meth c s₁ B hml hv
  obtain ⟨rfl, E, hR⟩ := hv
  have hts := atoms_spec (ws := Cond.code (xm_Y mj) (xm_B mj) (xm_ML mj) (xm_rt mj) :: xm_tb) B.pre
  have hown : s.vm.findClass (xm_Y mj).cls = some m.cls := findClass_of_methodNamed B.named
  have hlocks := B.notSynchronized
  rw [m4] at hown
  have hsz : s.heap.size = xm_n S 0 100 := hR.1.1
  have hLn : (as.map some ++ List.replicate (xm_ML mj - as.length) (none : Option xm_V)).length = xm_ML mj := by
    rw [List.length_append, List.length_map, List.length_replicate]
    omega
  have hLal : xm_alL S (as.map some ++ List.replicate (xm_ML mj - as.length) none) := fun v hv => by
    rcases List.mem_append.mp hv with hv | hv
    · obtain ⟨w, hw, e⟩ := List.mem_map.mp hv
      cases e
      exact has _ hw
    · exact absurd (List.eq_of_mem_replicate hv) (by simp)
  have K := hn d mj 0 _ [] S r S' hx (by omega) hal hLal (xm_alst.nil S) hLn hα p e (headSpec (Cond.code (xm_Y mj) (xm_B mj) (xm_ML mj) (xm_rt mj) :: xm_tb) (xm_rm d (xm_n S' 0 100 - xm_n S 0 100) (xm_n S' 0 101 - xm_n S 0 101))).room s m (as.map (xm_conc α)).toArray below meth c (MQ below (xm_Qc D g α base r S') (as.map (xm_conc α)).toArray s (xm_n S' 0 100 - xm_n S 0 100) (xm_n S' 0 101 - xm_n S 0 101) (fun q => base ≤ q)) (xm_n S 0 101) ⟨B.exec, B.bytes, hml, hown, fun w hw => hts w (List.mem_cons_of_mem _ hw)⟩ E (fun h => by rw [← h]; exact (name_of_methodNamed B.named B.method).1) (Nat.le_refl _) (Nat.le_refl _) (Nat.le_refl _) (by rw [hsz]; exact Nat.le_refl _) (Nat.le_refl _) (by
    intro pc' H' locs' ls' hret hR' hS'
    rw [hsz]
    have fin : ∀ t : State, t.heap = H' → s.WarmedH t.vm → xm_Qc D g α base r S' (as.map (xm_conc α)).toArray s (.returned (r.map (xm_conc α))) t := fun t ht hW => ⟨rfl, by rw [ht]; exact hR'.moved hW.alike, hS'.F ht⟩
    rcases r with _ | (x | x)
    · exact W.vret B.exec B.bytes (B.returns.trans hret.2) fin hS'.2.2 hret.1
    · rcases hret.2 with h1 | ⟨h1, h01⟩
      · exact W.iret B.exec B.bytes (B.returns.trans h1) fin hS'.2.2 hret.1
      · exact W.zret B.exec B.bytes (B.returns.trans h1) (by rcases h01 with rfl | rfl <;> rfl) fin hS'.2.2 hret.1
    · obtain ⟨C, hC⟩ := hret.2
      exact W.aret B.exec B.bytes (B.returns.trans hC) (Or.inl ⟨C, rfl⟩) (by cases x with | none => exact Or.inl rfl | some q => exact Or.inr ⟨_, rfl⟩) fin hS'.2.2 hret.1)
  have K2 := K s.heap [] _ hR va_S.rf (xm_entry α hna)
  rw [lg_entry_eq]
  have z1 : xm_n S 0 100 - s.heap.size = 0 := by omega
  have z2 : xm_n S 0 101 - xm_n S 0 101 = 0 := Nat.sub_self _
  rw [z1, z2] at K2
  exact K2
