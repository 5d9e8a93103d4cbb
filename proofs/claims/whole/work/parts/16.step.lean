/-! ===== a step of the abstract machine is a walk of the machine ===== -/
def xm_Intr (l : Launch) (D : va_G) (g : xm_G) (α : Nat → Nat → Nat) (base : Nat) : Prop := ∀ (p : Program) (e : Env) (R : Room) (s : State) (m : MethodId) (args : Array Value) (below : List Frame) (meth : Method) (c : Code) (Q : State → Prop) (cc : ByteArray) (nL o t0 pc : Nat) (L : xm_L) (st : List xm_V) (S : xm_S) (raw : Instr) (j q : Nat) (X : Nat × xm_L × List xm_V × xm_S), xm_ctx p s m args c cc nL o → xm_env D g α base s → decode cc pc = .ok (raw, 3) →
  ((raw = .invokevirtual j ∧ xm_has xm_mv o j q = true) ∨ (raw = .invokespecial j ∧ xm_has xm_mp o j q = true) ∨ (raw = .invokestatic j ∧ xm_has xm_ms o j q = true)) → 256000 ≤ q → st.length ≤ 8 → xm_al S → xm_alL S L → xm_alst S st → xm_intr (q / 256) (pc + 3) L st S = some (.inl X) → t0 ≤ xm_n S 0 101 → 10 ≤ R.frames → 400 ≤ R.locals →
  (∀ c k, c ≤ 15 → k < xm_n X.2.2.2 0 c → α c k = xm_a X.2.2.2 c k) → xm_n X.2.2.2 0 100 - s.heap.size ≤ R.cells → xm_n X.2.2.2 0 101 - t0 ≤ R.slots → xm_W p l e R s m args below meth c Q nL D g α base t0 X.1 X.2.1 X.2.2.1 X.2.2.2 → xm_W p l e R s m args below meth c Q nL D g α base t0 pc L st S
theorem xm_intr_inl {q nx : Nat} {L : xm_L} {st : List xm_V} {S : xm_S} {R : xm_R} (h : xm_intr q nx L st S = some R) : ∃ X : Nat × xm_L × List xm_V × xm_S, R = .inl X ∧ X.2.1 = L := by
  unfold xm_intr at h
  split at h
  · split at h
    · cases h; exact ⟨_, rfl, rfl⟩
    · cases h
  · split at h
    · cases h
    · cases h; exact ⟨_, rfl, rfl⟩
  · obtain ⟨j, hj, h⟩ := Option.bind_eq_some_iff.mp h
    cases h; exact ⟨_, rfl, rfl⟩
  · split at h
    · cases h
    obtain ⟨j, hj, h⟩ := Option.bind_eq_some_iff.mp h
    cases h; exact ⟨_, rfl, rfl⟩
  · obtain ⟨j, hj, h⟩ := Option.bind_eq_some_iff.mp h
    cases h; exact ⟨_, rfl, rfl⟩
  · cases h; exact ⟨_, rfl, rfl⟩
  · cases h; exact ⟨_, rfl, rfl⟩
  · cases h; exact ⟨_, rfl, rfl⟩
  · cases h; exact ⟨_, rfl, rfl⟩
  · cases h; exact ⟨_, rfl, rfl⟩
  · cases h
section XMS
variable {p : Program} {l : Launch} {e : Env} {R : Room} {s : State} {m : MethodId} {args : Array Value} {below : List Frame} {meth : Method} {c : Code} {Q : State → Prop} {cc : ByteArray} {nL o : Nat} {D : va_G} {g : xm_G} {α : Nat → Nat → Nat} {base t0 : Nat} {pc : Nat} {L : xm_L} {st : List xm_V} {S : xm_S} {ini : Bool} {rt : Option FieldType} {raw : Instr} {len : Nat}
set_option maxHeartbeats 4000000 in
theorem xm_w_step (hI : xm_Intr l D g α base) (C : xm_ctx p s m args c cc nL o) (E : xm_env D g α base s) (hini : ini = true → meth.name = "<init>") {ins : Instr} (hd : decode cc pc = .ok (raw, len)) (hil : xm_il raw = 0 ∨ len = xm_il raw) (hk : xm_lk o pc ini rt raw ins = true) {X : Nat × xm_L × List xm_V × xm_S} (h : xm_step (ins, pc + len) L st S = some (.inl X)) (hS : xm_al S) (hL : xm_alL S L) (hst : xm_alst S st) (hln : L.length = nL) (ht : t0 ≤ xm_n S 0 101) (hfr : 10 ≤ R.frames) (hlo : 400 ≤ R.locals)
    (hα : ∀ c k, c ≤ 15 → k < xm_n X.2.2.2 0 c → α c k = xm_a X.2.2.2 c k) (hcells : xm_n X.2.2.2 0 100 - s.heap.size ≤ R.cells) (hslots : xm_n X.2.2.2 0 101 - t0 ≤ R.slots) (kk : xm_W p l e R s m args below meth c Q nL D g α base t0 X.1 X.2.1 X.2.2.1 X.2.2.2) : X.2.1.length = nL ∧ xm_W p l e R s m args below meth c Q nL D g α base t0 pc L st S := by
  cases ins with
  | iconst x =>
    replace h : xm_nx (pc + len) L (.inl (Int32.ofInt x) :: st) S = some (Sum.inl X) := h
    cases h
    exact ⟨hln, xm_w_iconst C hd hil hk kk⟩
  | aconst_null =>
    replace h : xm_nx (pc + len) L (.inr none :: st) S = some (Sum.inl X) := h
    cases h
    exact ⟨hln, xm_w_null C hd hil hk kk⟩
  | iload i =>
    replace h : (match (generalizing := false) L[i]? with | some (some (.inl x)) => xm_nx (pc + len) L (.inl x :: st) S | _ => none) = some (Sum.inl X) := h
    split at h
    · rename_i hx
      cases h
      exact ⟨hln, xm_w_iload C hd hil hk hx kk⟩
    · cases h
  | aload i =>
    replace h : (match (generalizing := false) L[i]? with | some (some (.inr x)) => xm_nx (pc + len) L (.inr x :: st) S | _ => none) = some (Sum.inl X) := h
    split at h
    · rename_i hx
      cases h
      exact ⟨hln, xm_w_aload C hd hil hk hx kk⟩
    · cases h
  | istore i =>
    replace h : (match (generalizing := false) st with | .inl x :: st => if i < L.length then xm_nx (pc + len) (L.set i (some (.inl x))) st S else none | _ => none) = some (Sum.inl X) := h
    split at h
    · split at h
      · rename_i hi
        cases h
        exact ⟨by rw [List.length_set]; exact hln, xm_w_istore C hd hil hk hi hln kk⟩
      · cases h
    · cases h
  | astore i =>
    replace h : (match (generalizing := false) st with | .inr x :: st => if i < L.length then xm_nx (pc + len) (L.set i (some (.inr x))) st S else none | _ => none) = some (Sum.inl X) := h
    split at h
    · split at h
      · rename_i hi
        cases h
        exact ⟨by rw [List.length_set]; exact hln, xm_w_astore C hd hil hk hi hln kk⟩
      · cases h
    · cases h
  | iinc i n =>
    replace h : (match (generalizing := false) L[i]? with | some (some (.inl x)) => xm_nx (pc + len) (L.set i (some (.inl (x + Int32.ofInt n)))) st S | _ => none) = some (Sum.inl X) := h
    split at h
    · rename_i hx
      cases h
      exact ⟨by rw [List.length_set]; exact hln, xm_w_iinc C hd hil hk hx hln kk⟩
    · cases h
  | iadd =>
    replace h : (match (generalizing := false) st with | .inl y :: .inl x :: st => xm_nx (pc + len) L (.inl (x + y) :: st) S | _ => none) = some (Sum.inl X) := h
    split at h
    · cases h
      exact ⟨hln, xm_w_iadd C hd hil hk kk⟩
    · cases h
  | isub =>
    replace h : (match (generalizing := false) st with | .inl y :: .inl x :: st => xm_nx (pc + len) L (.inl (x - y) :: st) S | _ => none) = some (Sum.inl X) := h
    split at h
    · cases h
      exact ⟨hln, xm_w_isub C hd hil hk kk⟩
    · cases h
  | imul =>
    replace h : (match (generalizing := false) st with | .inl y :: .inl x :: st => xm_nx (pc + len) L (.inl (x * y) :: st) S | _ => none) = some (Sum.inl X) := h
    split at h
    · cases h
      exact ⟨hln, xm_w_imul C hd hil hk kk⟩
    · cases h
  | iand =>
    replace h : (match (generalizing := false) st with | .inl y :: .inl x :: st => xm_nx (pc + len) L (.inl (x &&& y) :: st) S | _ => none) = some (Sum.inl X) := h
    split at h
    · cases h
      exact ⟨hln, xm_w_iand C hd hil hk kk⟩
    · cases h
  | ior =>
    replace h : (match (generalizing := false) st with | .inl y :: .inl x :: st => xm_nx (pc + len) L (.inl (x ||| y) :: st) S | _ => none) = some (Sum.inl X) := h
    split at h
    · cases h
      exact ⟨hln, xm_w_ior C hd hil hk kk⟩
    · cases h
  | ishl =>
    replace h : (match (generalizing := false) st with | .inl y :: .inl x :: st => xm_nx (pc + len) L (.inl (x <<< (y &&& 31)) :: st) S | _ => none) = some (Sum.inl X) := h
    split at h
    · cases h
      exact ⟨hln, xm_w_ishl C hd hil hk kk⟩
    · cases h
  | irem =>
    replace h : (match (generalizing := false) st with | .inl y :: .inl x :: st => if y = 0 then none else xm_nx (pc + len) L (.inl (x - x / y * y) :: st) S | _ => none) = some (Sum.inl X) := h
    split at h
    · split at h
      · cases h
      · rename_i hy
        cases h
        exact ⟨hln, xm_w_irem C hd hil hk hy kk⟩
    · cases h
  | ineg =>
    replace h : (match (generalizing := false) st with | .inl x :: st => xm_nx (pc + len) L (.inl (-x) :: st) S | _ => none) = some (Sum.inl X) := h
    split at h
    · cases h
      exact ⟨hln, xm_w_ineg C hd hil hk kk⟩
    · cases h
  | dup =>
    replace h : (match (generalizing := false) st with | v :: st => xm_nx (pc + len) L (v :: v :: st) S | _ => none) = some (Sum.inl X) := h
    split at h
    · cases h
      exact ⟨hln, xm_w_dup C hd hil hk kk⟩
    · cases h
  | dup_x1 =>
    replace h : (match (generalizing := false) st with | v :: w :: st => xm_nx (pc + len) L (v :: w :: v :: st) S | _ => none) = some (Sum.inl X) := h
    split at h
    · cases h
      exact ⟨hln, xm_w_dup_x1 C hd hil hk kk⟩
    · cases h
  | dup2 =>
    replace h : (match (generalizing := false) st with | v :: w :: st => xm_nx (pc + len) L (v :: w :: v :: w :: st) S | _ => none) = some (Sum.inl X) := h
    split at h
    · cases h
      exact ⟨hln, xm_w_dup2 C hd hil hk kk⟩
    · cases h
  | pop =>
    replace h : (match (generalizing := false) st with | _ :: st => xm_nx (pc + len) L (st) S | _ => none) = some (Sum.inl X) := h
    split at h
    · cases h
      exact ⟨hln, xm_w_pop C hd hil hk kk⟩
    · cases h
  | ifCond cd t =>
    replace h : (match (generalizing := false) st with | .inl x :: st => xm_nx (if xm_cmp cd x 0 = true then t.toNat else (pc + len)) L st S | _ => none) = some (Sum.inl X) := h
    split at h
    · cases h
      exact ⟨hln, xm_w_if C hd hil hk kk⟩
    · cases h
  | if_icmp cd t =>
    replace h : (match (generalizing := false) st with | .inl y :: .inl x :: st => xm_nx (if xm_cmp cd x y = true then t.toNat else (pc + len)) L st S | _ => none) = some (Sum.inl X) := h
    split at h
    · cases h
      exact ⟨hln, xm_w_icmp C hd hil hk kk⟩
    · cases h
  | if_acmp cd t =>
    cases cd with
    | eq =>
      replace h : (match (generalizing := false) st with | .inr y :: .inr x :: st => if xm_k12 x = true ∧ xm_k12 y = true then xm_nx (if x = y then t.toNat else (pc + len)) L st S else none | _ => none) = some (Sum.inl X) := h
      split at h
      · split at h
        · rename_i h12
          cases h
          exact ⟨hln, xm_w_acmp C hd hil hk h12.1 h12.2 hst.tl.hd hst.hd kk⟩
        · cases h
      · cases h
    | ne =>
      replace h : (match (generalizing := false) st with | .inr y :: .inr x :: st => if xm_k12 x = true ∧ xm_k12 y = true then xm_nx (if x = y then (pc + len) else t.toNat) L st S else none | _ => none) = some (Sum.inl X) := h
      split at h
      · split at h
        · rename_i h12
          cases h
          exact ⟨hln, xm_w_acmp C hd hil hk h12.1 h12.2 hst.tl.hd hst.hd kk⟩
        · cases h
      · cases h
  | ifnull t =>
    replace h : (match (generalizing := false) st with | .inr x :: st => xm_nx (if x = none then t.toNat else (pc + len)) L st S | _ => none) = some (Sum.inl X) := h
    split at h
    · cases h
      exact ⟨hln, xm_w_ifnull C hd hil hk kk⟩
    · cases h
  | ifnonnull t =>
    replace h : (match (generalizing := false) st with | .inr x :: st => xm_nx (if x = none then (pc + len) else t.toNat) L st S | _ => none) = some (Sum.inl X) := h
    split at h
    · cases h
      exact ⟨hln, xm_w_ifnonnull C hd hil hk kk⟩
    · cases h
  | goto t =>
    replace h : xm_nx t.toNat L st S = some (Sum.inl X) := h
    cases h
    exact ⟨hln, xm_w_goto C hd hil hk kk⟩
  | tableswitch d lo hi offs =>
    replace h : (match (generalizing := false) st with | .inl x :: st => xm_nx (if x.toInt < lo ∨ hi < x.toInt then d.toNat else (offs.getD (x.toInt - lo).toNat 0).toNat) L st S | _ => none) = some (Sum.inl X) := h
    split at h
    · cases h
      exact ⟨hln, xm_w_table C hd hil hk kk⟩
    · cases h
  | lookupswitch d ps =>
    replace h : (match (generalizing := false) st with | .inl x :: st => xm_nx (Op.lookupswitch.offset ps.toList d x.toInt).toNat L st S | _ => none) = some (Sum.inl X) := h
    split at h
    · cases h
      exact ⟨hln, xm_w_lookup C hd hil hk kk⟩
    · cases h
  | getfield f =>
    replace h : xm_getf f (pc + len) L st S = some (Sum.inl X) := h
    have hwf : xm_wf (.getfield f) = true := by
      cases raw with
      | getfield j => exact (Bool.and_eq_true_iff.mp (show (xm_has xm_fl o j f && xm_wf (.getfield f)) = true from hk)).2
      | _ => cases hk
    obtain ⟨w1, w2, w3, w4⟩ := of_decide_eq_true hwf
    unfold xm_getf at h
    split at h
    · rename_i ck k st'
      split at h
      · rename_i hc
        have hX : X = ((pc + len), L, xm_get S ck k (f / 32 % 256) :: st', S) := by
          unfold xm_get
          rw [hc, ← w1]
          rw [hc] at h
          split at h
          · rename_i h2
            rw [if_pos h2]
            exact (Sum.inl.inj (Option.some.inj h)).symm
          · rename_i h2
            rw [if_neg h2]
            exact (Sum.inl.inj (Option.some.inj h)).symm
        subst hX
        exact ⟨hln, xm_w_getf C hd hil E hk hc (hst.hd _ _ rfl).2 kk⟩
      · cases h
    · cases h
  | putfield f =>
    replace h : xm_putf f (pc + len) L st S = some (Sum.inl X) := h
    have hwf : xm_wf (.putfield f) = true := by
      cases raw with
      | putfield j => exact (Bool.and_eq_true_iff.mp (Bool.and_eq_true_iff.mp (show (xm_has xm_fl o j f && (xm_wf (.putfield f) && (!(xm_fin (f / 8192) (f / 32 % 256)) || (ini && decide (o = f / 8192))))) = true from hk)).2).1
      | _ => cases hk
    obtain ⟨w1, w2, w3, w4⟩ := of_decide_eq_true hwf
    have htok := xm_ty_ok (c := f / 8192) (j := f / 32 % 256) (by omega) w4
    have hfty := xm_fty_ok (c := f / 8192) (j := f / 32 % 256) (by omega) w4
    unfold xm_tyok at htok
    rw [hfty] at htok
    unfold xm_putf at h
    split at h
    · rename_i x ck k st'
      split at h
      · rename_i hc
        cases h
        obtain ⟨rfl, hc2⟩ := hc
        have hty2 : xm_ty (f / 8192) (f / 32 % 256) < 2 := by omega
        have hnf : narrow (xm_fty (f / 8192) (f / 32 % 256)) (.int x) = .int x ∧ fits (xm_fty (f / 8192) (f / 32 % 256)) (.int x) = true := by
          generalize xm_fty (f / 8192) (f / 32 % 256) = t at htok
          cases t with
          | int => exact ⟨rfl, rfl⟩
          | boolean =>
            have := of_decide_eq_true htok
            rcases hc2 with hc2 | ⟨hc2, rfl | rfl⟩
            · omega
            · exact ⟨rfl, rfl⟩
            · exact ⟨rfl, rfl⟩
          | object n => have := of_decide_eq_true htok; omega
          | array n => have := of_decide_eq_true htok; omega
          | _ => cases htok
        exact ⟨hln, xm_w_putf (v := .inl x) (S' := xm_si S (f / 8192) k (f / 32 % 256) x) C hd hil E hini hk rfl (hst.tl.hd _ _ rfl).2 hnf.1 hnf.2 (fun j' => xm_get_si S _ _ _ j' x hty2) rfl rfl rfl (fun p q r => xm_u3_or _ _ _ _ _ p q r) (fun p q r => Or.inr rfl) kk⟩
      · cases h
    · rename_i ck k st'
      split at h
      · rename_i hc
        cases h
        obtain ⟨rfl, hc2⟩ := hc
        have hty2 : ¬ xm_ty (f / 8192) (f / 32 % 256) < 2 := by omega
        have hnf : narrow (xm_fty (f / 8192) (f / 32 % 256)) .null = .null ∧ fits (xm_fty (f / 8192) (f / 32 % 256)) .null = true := by
          generalize xm_fty (f / 8192) (f / 32 % 256) = t at htok
          cases t with
          | int => have := of_decide_eq_true htok; omega
          | boolean => have := of_decide_eq_true htok; omega
          | object n => exact ⟨rfl, rfl⟩
          | array n => exact ⟨rfl, rfl⟩
          | _ => cases htok
        exact ⟨hln, xm_w_putf (v := .inr none) (S' := xm_sr S (f / 8192) k (f / 32 % 256) none) C hd hil E hini hk rfl (hst.tl.hd _ _ rfl).2 hnf.1 hnf.2 (fun j' => xm_get_sr S _ _ _ j' none hty2) rfl rfl rfl (fun p q r => Or.inr rfl) (fun p q r => xm_u3_or _ _ _ _ _ p q r) kk⟩
      · cases h
    · rename_i cd ek ck k st'
      split at h
      · rename_i hc
        cases h
        obtain ⟨rfl, hc2⟩ := hc
        have hty2 : ¬ xm_ty (f / 8192) (f / 32 % 256) < 2 := by omega
        have hcd : cd = xm_ty (f / 8192) (f / 32 % 256) - 2 := by omega
        have hnf : narrow (xm_fty (f / 8192) (f / 32 % 256)) (.ref (α cd ek)) = .ref (α cd ek) ∧ fits (xm_fty (f / 8192) (f / 32 % 256)) (.ref (α cd ek)) = true := by
          generalize xm_fty (f / 8192) (f / 32 % 256) = t at htok
          cases t with
          | int => have := of_decide_eq_true htok; omega
          | boolean => have := of_decide_eq_true htok; omega
          | object n => exact ⟨rfl, rfl⟩
          | array n => exact ⟨rfl, rfl⟩
          | _ => cases htok
        exact ⟨hln, xm_w_putf (v := .inr (some (cd, ek))) (S' := xm_sr S (f / 8192) k (f / 32 % 256) (some ek)) C hd hil E hini hk rfl (hst.tl.hd _ _ rfl).2 hnf.1 hnf.2 (fun j' => by rw [xm_get_sr S _ _ _ j' (some ek) hty2, hcd]; rfl) rfl rfl rfl (fun p q r => Or.inr rfl) (fun p q r => xm_u3_or _ _ _ _ _ p q r) kk⟩
      · cases h
    · cases h
  | getstatic k =>
    replace h : xm_nx (pc + len) L (.inr (some (16, k)) :: st) S = some (Sum.inl X) := h
    cases h
    exact ⟨hln, xm_w_gets C hd hil E hk kk⟩
  | new ck =>
    replace h : xm_nx (pc + len) L (.inr (some (ck, xm_n S 0 ck)) :: st) (xm_mk ck (xm_nf ck) S) = some (Sum.inl X) := h
    cases h
    have hc : ck ≤ 12 := by
      cases raw with
      | new j => exact of_decide_eq_true (Bool.and_eq_true_iff.mp (show (xm_has xm_kl o j ck && decide (ck ≤ 12)) = true from hk)).2
      | _ => cases hk
    have a1 := hα ck (xm_n S 0 ck) (by omega) (by rw [xm_mk_c]; omega)
    rw [xm_mk_a] at a1
    replace hcells : xm_n (xm_mk ck (xm_nf ck) S) 0 100 - s.heap.size ≤ R.cells := hcells
    replace hslots : xm_n (xm_mk ck (xm_nf ck) S) 0 101 - t0 ≤ R.slots := hslots
    rw [xm_mk_100 _ _ _ (by omega)] at hcells
    rw [xm_mk_101 _ _ _ (by omega)] at hslots
    exact ⟨hln, xm_w_new C hd hil E hk a1 hcells hslots ht kk⟩
  | newarray t =>
    cases t with
    | int =>
      replace h : xm_newa 13 (pc + len) L st S = some (Sum.inl X) := h
      unfold xm_newa at h
      split at h
      · rename_i x st'
        split at h
        · cases h
        · rename_i hx0
          cases h
          have a1 := hα 13 (xm_n S 0 13) (by decide) (by rw [xm_mk_c]; omega)
          rw [xm_mk_a] at a1
          replace hcells : xm_n (xm_mk 13 x.toNatClampNeg S) 0 100 - s.heap.size ≤ R.cells := hcells
          replace hslots : xm_n (xm_mk 13 x.toNatClampNeg S) 0 101 - t0 ≤ R.slots := hslots
          rw [xm_mk_100 _ _ _ (by decide)] at hcells
          rw [xm_mk_101 _ _ _ (by decide)] at hslots
          exact ⟨hln, xm_w_newi C hd hil E hk hx0 a1 hcells hslots ht kk⟩
      · cases h
    | boolean =>
      replace h : xm_newa 14 (pc + len) L st S = some (Sum.inl X) := h
      unfold xm_newa at h
      split at h
      · rename_i x st'
        split at h
        · cases h
        · rename_i hx0
          cases h
          have a1 := hα 14 (xm_n S 0 14) (by decide) (by rw [xm_mk_c]; omega)
          rw [xm_mk_a] at a1
          replace hcells : xm_n (xm_mk 14 x.toNatClampNeg S) 0 100 - s.heap.size ≤ R.cells := hcells
          replace hslots : xm_n (xm_mk 14 x.toNatClampNeg S) 0 101 - t0 ≤ R.slots := hslots
          rw [xm_mk_100 _ _ _ (by decide)] at hcells
          rw [xm_mk_101 _ _ _ (by decide)] at hslots
          exact ⟨hln, xm_w_newz C hd hil E hk hx0 a1 hcells hslots ht kk⟩
      · cases h
    | _ => cases h
  | anewarray j =>
    replace h : xm_newa 15 (pc + len) L st S = some (Sum.inl X) := h
    unfold xm_newa at h
    split at h
    · rename_i x st'
      split at h
      · cases h
      · rename_i hx0
        cases h
        have a1 := hα 15 (xm_n S 0 15) (by decide) (by rw [xm_mk_c]; omega)
        rw [xm_mk_a] at a1
        replace hcells : xm_n (xm_mk 15 x.toNatClampNeg S) 0 100 - s.heap.size ≤ R.cells := hcells
        replace hslots : xm_n (xm_mk 15 x.toNatClampNeg S) 0 101 - t0 ≤ R.slots := hslots
        rw [xm_mk_100 _ _ _ (by decide)] at hcells
        rw [xm_mk_101 _ _ _ (by decide)] at hslots
        exact ⟨hln, xm_w_newq C hd hil E hk hx0 a1 hcells hslots ht kk⟩
    · cases h
  | iaload =>
    replace h : xm_ild (pc + len) L st S = some (Sum.inl X) := h
    unfold xm_ild at h
    split at h
    · split at h
      · rename_i hc
        obtain ⟨j, hj, h⟩ := Option.bind_eq_some_iff.mp h
        cases h
        exact ⟨hln, xm_w_ild C hd hil E hk hc (hst.tl.hd _ _ rfl).2 hj kk⟩
      · cases h
    · cases h
  | baload =>
    replace h : xm_zld (pc + len) L st S = some (Sum.inl X) := h
    unfold xm_zld at h
    split at h
    · split at h
      · rename_i hc
        subst hc
        obtain ⟨j, hj, h⟩ := Option.bind_eq_some_iff.mp h
        cases h
        exact ⟨hln, xm_w_zld C hd hil E hk (hst.tl.hd _ _ rfl).2 hj kk⟩
      · cases h
    · cases h
  | aaload =>
    replace h : xm_ald (pc + len) L st S = some (Sum.inl X) := h
    unfold xm_ald at h
    split at h
    · split at h
      · rename_i hc
        subst hc
        obtain ⟨j, hj, h⟩ := Option.bind_eq_some_iff.mp h
        cases h
        exact ⟨hln, xm_w_ald C hd hil E hk (hst.tl.hd _ _ rfl).2 hj kk⟩
      · cases h
    · cases h
  | iastore =>
    replace h : xm_ist (pc + len) L st S = some (Sum.inl X) := h
    unfold xm_ist at h
    split at h
    · split at h
      · rename_i hc
        subst hc
        obtain ⟨j, hj, h⟩ := Option.bind_eq_some_iff.mp h
        cases h
        exact ⟨hln, xm_w_ist C hd hil E hk (hst.tl.tl.hd _ _ rfl).2 hj kk⟩
      · cases h
    · cases h
  | bastore =>
    replace h : xm_zst (pc + len) L st S = some (Sum.inl X) := h
    unfold xm_zst at h
    split at h
    · split at h
      · rename_i hc
        obtain ⟨rfl, h01⟩ := hc
        obtain ⟨j, hj, h⟩ := Option.bind_eq_some_iff.mp h
        cases h
        exact ⟨hln, xm_w_zst C hd hil E hk (hst.tl.tl.hd _ _ rfl).2 hj h01 kk⟩
      · cases h
    · cases h
  | aastore =>
    replace h : xm_ast (pc + len) L st S = some (Sum.inl X) := h
    unfold xm_ast at h
    split at h
    · split at h
      · rename_i hc
        obtain ⟨rfl, rfl⟩ := hc
        obtain ⟨j, hj, h⟩ := Option.bind_eq_some_iff.mp h
        cases h
        exact ⟨hln, xm_w_ast C hd hil E hk (hst.tl.tl.hd _ _ rfl).2 hj (hst.hd _ _ rfl).2 kk⟩
      · cases h
    · cases h
  | arraylength =>
    replace h : xm_alen (pc + len) L st S = some (Sum.inl X) := h
    unfold xm_alen at h
    split at h
    · split at h
      · rename_i hc
        cases h
        exact ⟨hln, xm_w_alen C hd hil E hk hc (hst.hd _ _ rfl).2 kk⟩
      · cases h
    · cases h
  | checkcast cq =>
    replace h : (match (generalizing := false) st with | .inr none :: _ => xm_nx (pc + len) L st S | .inr (some (d, _)) :: _ => if d = cq then xm_nx (pc + len) L st S else none | _ => none) = some (Sum.inl X) := h
    split at h
    · cases h
      exact ⟨hln, xm_w_castN C hd hil hk kk⟩
    · split at h
      · rename_i hdq
        subst hdq
        cases h
        exact ⟨hln, xm_w_cast C hd hil E hk (hst.hd _ _ rfl).2 kk⟩
      · cases h
    · cases h
  | invokevirtual q =>
    replace h : xm_call q (pc + len) L st S = some (Sum.inl X) := h
    unfold xm_call at h
    split at h
    · rename_i hq
      split at h
      · rename_i h8
        cases raw with
        | invokevirtual j =>
          obtain rfl := xm_il1 hil rfl
          obtain ⟨Y, hY, hYL⟩ := xm_intr_inl h
          cases hY
          exact ⟨by rw [hYL]; exact hln, hI _ _ _ _ _ _ _ _ _ _ _ _ _ _ _ _ _ _ _ _ _ _ C E hd (Or.inl ⟨rfl, hk⟩) hq h8 hS hL hst h ht hfr hlo hα hcells hslots kk⟩
        | _ => cases hk
      · cases h
    · split at h
      · cases h
      · cases h
  | invokespecial q =>
    replace h : xm_call q (pc + len) L st S = some (Sum.inl X) := h
    unfold xm_call at h
    split at h
    · rename_i hq
      split at h
      · rename_i h8
        cases raw with
        | invokespecial j =>
          obtain rfl := xm_il1 hil rfl
          obtain ⟨Y, hY, hYL⟩ := xm_intr_inl h
          cases hY
          exact ⟨by rw [hYL]; exact hln, hI _ _ _ _ _ _ _ _ _ _ _ _ _ _ _ _ _ _ _ _ _ _ C E hd (Or.inr (Or.inl ⟨rfl, hk⟩)) hq h8 hS hL hst h ht hfr hlo hα hcells hslots kk⟩
        | _ => cases hk
      · cases h
    · split at h
      · cases h
      · cases h
  | invokestatic q =>
    replace h : xm_call q (pc + len) L st S = some (Sum.inl X) := h
    unfold xm_call at h
    split at h
    · rename_i hq
      split at h
      · rename_i h8
        cases raw with
        | invokestatic j =>
          obtain rfl := xm_il1 hil rfl
          obtain ⟨Y, hY, hYL⟩ := xm_intr_inl h
          cases hY
          exact ⟨by rw [hYL]; exact hln, hI _ _ _ _ _ _ _ _ _ _ _ _ _ _ _ _ _ _ _ _ _ _ C E hd (Or.inr (Or.inr ⟨rfl, hk⟩)) hq h8 hS hL hst h ht hfr hlo hα hcells hslots kk⟩
        | _ => cases hk
      · cases h
    · split at h
      · cases h
      · cases h
  | ireturn =>
    replace h : ((match (generalizing := false) st with | [.inl x] => some (.inr (.inl (some (.inl x)))) | _ => none) : Option xm_R) = some (Sum.inl X) := h
    split at h
    · cases h
    · cases h
  | areturn =>
    replace h : ((match (generalizing := false) st with | [.inr x] => some (.inr (.inl (some (.inr x)))) | _ => none) : Option xm_R) = some (Sum.inl X) := h
    split at h
    · cases h
    · cases h
  | return_ =>
    replace h : ((match (generalizing := false) st with | [] => some (.inr (.inl none)) | _ => none) : Option xm_R) = some (Sum.inl X) := h
    split at h
    · cases h
    · cases h
  | freturn =>
    replace h : ((match (generalizing := false) st with | [.inl x] => if x = 0 ∨ x = 1 then some (.inr (.inl (some (.inl x)))) else none | _ => none) : Option xm_R) = some (Sum.inl X) := h
    split at h
    · split at h
      · cases h
      · cases h
    · cases h
  | _ => cases h
end XMS
