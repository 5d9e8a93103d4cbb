/-! ===== the machine follows the abstract machine, instruction by instruction ===== -/
def xm_lvs (α : Nat → Nat → Nat) (L : xm_L) : List (Nat × Value) := (List.range L.length).filterMap fun i => match L[i]? with
  | some (some v) => some (i, xm_conc α v)
  | _ => none
theorem xm_lvs_mem {α : Nat → Nat → Nat} {L : xm_L} {i : Nat} {w : Value} : (i, w) ∈ xm_lvs α L ↔ ∃ v, L[i]? = some (some v) ∧ w = xm_conc α v := by
  unfold xm_lvs
  rw [List.mem_filterMap]
  constructor
  · rintro ⟨j, hj, h⟩
    split at h
    · rename_i v hv
      cases h
      exact ⟨v, hv, rfl⟩
    · cases h
  · rintro ⟨v, hv, rfl⟩
    refine ⟨i, List.mem_range.mpr (List.getElem?_eq_some_iff.mp hv).1, ?_⟩
    rw [hv]
theorem xm_conc_cat (α : Nat → Nat → Nat) (v : xm_V) : (xm_conc α v).category = 1 := by
  rcases v with x | (_ | q) <;> rfl
theorem xm_lvs_at {α : Nat → Nat → Nat} {L : xm_L} {ls : Array Slot} {nL i : Nat} {v : xm_V} (hl : lv_has ls nL (xm_lvs α L)) (h : L[i]? = some (some v)) : ls[i]? = some (.val (xm_conc α v)) := hl.2.2 (i, xm_conc α v) (xm_lvs_mem.mpr ⟨v, h, rfl⟩)
/-- behind a store -/
theorem xm_lvs_set {α : Nat → Nat → Nat} {L : xm_L} {ls : Array Slot} {nL i : Nat} {v : xm_V} (hi : i < L.length) (hl : lv_has ls nL ((i, xm_conc α v) :: (xm_lvs α L).filter (fun q => !(q.1 == i) && !(q.1 + 1 == i && q.2.category == 2)))) : lv_has ls nL (xm_lvs α (L.set i (some v))) := by
  refine ⟨hl.1, hl.2.1, fun q hq => hl.2.2 q ?_⟩
  obtain ⟨j, w⟩ := q
  obtain ⟨u, hu, rfl⟩ := xm_lvs_mem.mp hq
  by_cases hj : i = j
  · subst hj
    rw [List.getElem?_set_self hi] at hu
    cases hu
    exact List.mem_cons_self
  · rw [List.getElem?_set_ne hj] at hu
    refine List.mem_cons_of_mem _ (List.mem_filter.mpr ⟨xm_lvs_mem.mpr ⟨u, hu, rfl⟩, ?_⟩)
    simp [xm_conc_cat, Ne.symm hj]
theorem xm_il1 {raw : Instr} {len n : Nat} (h : xm_il raw = 0 ∨ len = xm_il raw) (h0 : xm_il raw = n + 1) : len = n + 1 := by
  rcases h with z | z
  · rw [z] at h0; cases h0
  · rw [z, h0]
/-- what the machine needs of the tables, standing in a method of class o -/
def xm_ctx (p : Program) (s : State) (m : MethodId) (args : Array Value) (c : Code) (cc : ByteArray) (nL o : Nat) : Prop :=
  p.tables.exec = Jvm.exec ∧ c.code = cc ∧ c.maxLocals = nL ∧ s.vm.findClass (xm_cn o) = some m.cls ∧ ∀ w ∈ xm_tb, w.before args s = true
def xm_W (p : Program) (l : Launch) (e : Env) (R : Room) (s : State) (m : MethodId) (args : Array Value) (below : List Frame) (meth : Method) (c : Code) (Q : State → Prop) (nL : Nat) (D : va_G) (g : xm_G) (α : Nat → Nat → Nat) (base t0 : Nat) (pc : Nat) (L : xm_L) (st : List xm_V) (S : xm_S) : Prop :=
  ∀ (H : Heap) (locs : List Loc) (ls : Array Slot), xm_rel D g α base S s H → va_S (fun q => base ≤ q) s.heap H locs → lv_has ls nL (xm_lvs α L) → W p l e R s m args below meth c H locs (xm_n S 0 100 - s.heap.size) (xm_n S 0 101 - t0) Q (F0 m pc ls (st.map (xm_conc α)))
section XMW
variable {p : Program} {l : Launch} {e : Env} {R : Room} {s : State} {m : MethodId} {args : Array Value} {below : List Frame} {meth : Method} {c : Code} {Q : State → Prop} {cc : ByteArray} {nL o : Nat} {D : va_G} {g : xm_G} {α : Nat → Nat → Nat} {base t0 : Nat} {pc : Nat} {L : xm_L} {st : List xm_V} {S : xm_S} {ini : Bool} {rt : Option FieldType} {raw : Instr} {len : Nat}
theorem xm_w_iconst {x : Int} (C : xm_ctx p s m args c cc nL o) (hd : decode cc pc = .ok (raw, len)) (hil : xm_il raw = 0 ∨ len = xm_il raw) (hk : xm_lk o pc ini rt raw (.iconst x) = true)  (k : xm_W p l e R s m args below meth c Q nL D g α base t0 (pc + len) L (.inl (Int32.ofInt x) :: st) S) : xm_W p l e R s m args below meth c Q nL D g α base t0 pc L st S := by
  intro H locs ls hR hS hl
  obtain ⟨hx, hb, -, hown, hts⟩ := C
  cases raw with
  | iconst n =>
    have en := of_decide_eq_true hk
    subst en
    obtain rfl := xm_il1 hil rfl
    exact lv_iconst hx hb hd rfl (k H locs ls hR hS hl)
  | bipush n =>
    have en := of_decide_eq_true hk
    obtain rfl := xm_il1 hil rfl
    exact lv_bipush hx hb hd en (k H locs ls hR hS hl)
  | sipush n =>
    have en := of_decide_eq_true hk
    obtain rfl := xm_il1 hil rfl
    exact lv_sipush hx hb hd en (k H locs ls hR hS hl)
  | ldc j =>
    obtain rfl := xm_il1 hil rfl
    obtain ⟨q, hq, e1⟩ := List.any_eq_true.mp (show (xm_kc.any fun q => q.1 == o && (q.2.1 == j && decide (q.2.2 = x))) = true from hk)
    simp only [Bool.and_eq_true, beq_iff_eq, decide_eq_true_eq] at e1
    have hw := hts _ (xm_kc_in q hq)
    unfold xm_cword at hw
    rw [e1.1, e1.2.1, e1.2.2] at hw
    exact lv_ldc hx hb hown hw hd (k H locs ls hR hS hl)
  | ldc_w j =>
    obtain rfl := xm_il1 hil rfl
    obtain ⟨q, hq, e1⟩ := List.any_eq_true.mp (show (xm_kc.any fun q => q.1 == o && (q.2.1 == j && decide (q.2.2 = x))) = true from hk)
    simp only [Bool.and_eq_true, beq_iff_eq, decide_eq_true_eq] at e1
    have hw := hts _ (xm_kc_in q hq)
    unfold xm_cword at hw
    rw [e1.1, e1.2.1, e1.2.2] at hw
    exact lv_ldcw hx hb hown hw hd (k H locs ls hR hS hl)
  | _ => cases hk
theorem xm_w_null  (C : xm_ctx p s m args c cc nL o) (hd : decode cc pc = .ok (raw, len)) (hil : xm_il raw = 0 ∨ len = xm_il raw) (hk : xm_lk o pc ini rt raw (.aconst_null) = true)  (k : xm_W p l e R s m args below meth c Q nL D g α base t0 (pc + len) L (.inr none :: st) S) : xm_W p l e R s m args below meth c Q nL D g α base t0 pc L st S := by
  intro H locs ls hR hS hl
  obtain ⟨hx, hb, -, hown, hts⟩ := C
  have er : raw = .aconst_null := of_decide_eq_true hk
  subst er
  obtain rfl := xm_il1 hil rfl
  exact lv_null hx hb hd (k H locs ls hR hS hl)
theorem xm_w_iadd {x y : Int32} (C : xm_ctx p s m args c cc nL o) (hd : decode cc pc = .ok (raw, len)) (hil : xm_il raw = 0 ∨ len = xm_il raw) (hk : xm_lk o pc ini rt raw (.iadd) = true)  (k : xm_W p l e R s m args below meth c Q nL D g α base t0 (pc + len) L (.inl (x + y) :: st) S) : xm_W p l e R s m args below meth c Q nL D g α base t0 pc L (.inl y :: .inl x :: st) S := by
  intro H locs ls hR hS hl
  obtain ⟨hx, hb, -, hown, hts⟩ := C
  have er : raw = .iadd := of_decide_eq_true hk
  subst er
  obtain rfl := xm_il1 hil rfl
  exact lv_iadd hx hb hd (k H locs ls hR hS hl)
theorem xm_w_isub {x y : Int32} (C : xm_ctx p s m args c cc nL o) (hd : decode cc pc = .ok (raw, len)) (hil : xm_il raw = 0 ∨ len = xm_il raw) (hk : xm_lk o pc ini rt raw (.isub) = true)  (k : xm_W p l e R s m args below meth c Q nL D g α base t0 (pc + len) L (.inl (x - y) :: st) S) : xm_W p l e R s m args below meth c Q nL D g α base t0 pc L (.inl y :: .inl x :: st) S := by
  intro H locs ls hR hS hl
  obtain ⟨hx, hb, -, hown, hts⟩ := C
  have er : raw = .isub := of_decide_eq_true hk
  subst er
  obtain rfl := xm_il1 hil rfl
  exact lv_isub hx hb hd (k H locs ls hR hS hl)
theorem xm_w_imul {x y : Int32} (C : xm_ctx p s m args c cc nL o) (hd : decode cc pc = .ok (raw, len)) (hil : xm_il raw = 0 ∨ len = xm_il raw) (hk : xm_lk o pc ini rt raw (.imul) = true)  (k : xm_W p l e R s m args below meth c Q nL D g α base t0 (pc + len) L (.inl (x * y) :: st) S) : xm_W p l e R s m args below meth c Q nL D g α base t0 pc L (.inl y :: .inl x :: st) S := by
  intro H locs ls hR hS hl
  obtain ⟨hx, hb, -, hown, hts⟩ := C
  have er : raw = .imul := of_decide_eq_true hk
  subst er
  obtain rfl := xm_il1 hil rfl
  exact lv_imul hx hb hd (k H locs ls hR hS hl)
theorem xm_w_iand {x y : Int32} (C : xm_ctx p s m args c cc nL o) (hd : decode cc pc = .ok (raw, len)) (hil : xm_il raw = 0 ∨ len = xm_il raw) (hk : xm_lk o pc ini rt raw (.iand) = true)  (k : xm_W p l e R s m args below meth c Q nL D g α base t0 (pc + len) L (.inl (x &&& y) :: st) S) : xm_W p l e R s m args below meth c Q nL D g α base t0 pc L (.inl y :: .inl x :: st) S := by
  intro H locs ls hR hS hl
  obtain ⟨hx, hb, -, hown, hts⟩ := C
  have er : raw = .iand := of_decide_eq_true hk
  subst er
  obtain rfl := xm_il1 hil rfl
  exact lv_iand hx hb hd (k H locs ls hR hS hl)
theorem xm_w_ior {x y : Int32} (C : xm_ctx p s m args c cc nL o) (hd : decode cc pc = .ok (raw, len)) (hil : xm_il raw = 0 ∨ len = xm_il raw) (hk : xm_lk o pc ini rt raw (.ior) = true)  (k : xm_W p l e R s m args below meth c Q nL D g α base t0 (pc + len) L (.inl (x ||| y) :: st) S) : xm_W p l e R s m args below meth c Q nL D g α base t0 pc L (.inl y :: .inl x :: st) S := by
  intro H locs ls hR hS hl
  obtain ⟨hx, hb, -, hown, hts⟩ := C
  have er : raw = .ior := of_decide_eq_true hk
  subst er
  obtain rfl := xm_il1 hil rfl
  exact lv_ior hx hb hd (k H locs ls hR hS hl)
theorem xm_w_ishl {x y : Int32} (C : xm_ctx p s m args c cc nL o) (hd : decode cc pc = .ok (raw, len)) (hil : xm_il raw = 0 ∨ len = xm_il raw) (hk : xm_lk o pc ini rt raw (.ishl) = true)  (k : xm_W p l e R s m args below meth c Q nL D g α base t0 (pc + len) L (.inl (x <<< (y &&& 31)) :: st) S) : xm_W p l e R s m args below meth c Q nL D g α base t0 pc L (.inl y :: .inl x :: st) S := by
  intro H locs ls hR hS hl
  obtain ⟨hx, hb, -, hown, hts⟩ := C
  have er : raw = .ishl := of_decide_eq_true hk
  subst er
  obtain rfl := xm_il1 hil rfl
  exact lv_ishl hx hb hd (k H locs ls hR hS hl)
theorem xm_w_irem {x y : Int32} (C : xm_ctx p s m args c cc nL o) (hd : decode cc pc = .ok (raw, len)) (hil : xm_il raw = 0 ∨ len = xm_il raw) (hk : xm_lk o pc ini rt raw (.irem) = true) (hy : ¬ y = 0) (k : xm_W p l e R s m args below meth c Q nL D g α base t0 (pc + len) L (.inl (x - x / y * y) :: st) S) : xm_W p l e R s m args below meth c Q nL D g α base t0 pc L (.inl y :: .inl x :: st) S := by
  intro H locs ls hR hS hl
  obtain ⟨hx, hb, -, hown, hts⟩ := C
  have er : raw = .irem := of_decide_eq_true hk
  subst er
  obtain rfl := xm_il1 hil rfl
  exact lv_irem hx hb hd hy (k H locs ls hR hS hl)
theorem xm_w_ineg {x : Int32} (C : xm_ctx p s m args c cc nL o) (hd : decode cc pc = .ok (raw, len)) (hil : xm_il raw = 0 ∨ len = xm_il raw) (hk : xm_lk o pc ini rt raw (.ineg) = true)  (k : xm_W p l e R s m args below meth c Q nL D g α base t0 (pc + len) L (.inl (-x) :: st) S) : xm_W p l e R s m args below meth c Q nL D g α base t0 pc L (.inl x :: st) S := by
  intro H locs ls hR hS hl
  obtain ⟨hx, hb, -, hown, hts⟩ := C
  have er : raw = .ineg := of_decide_eq_true hk
  subst er
  obtain rfl := xm_il1 hil rfl
  exact lv_ineg hx hb hd (k H locs ls hR hS hl)
theorem xm_w_dup {v : xm_V} (C : xm_ctx p s m args c cc nL o) (hd : decode cc pc = .ok (raw, len)) (hil : xm_il raw = 0 ∨ len = xm_il raw) (hk : xm_lk o pc ini rt raw (.dup) = true)  (k : xm_W p l e R s m args below meth c Q nL D g α base t0 (pc + len) L (v :: v :: st) S) : xm_W p l e R s m args below meth c Q nL D g α base t0 pc L (v :: st) S := by
  intro H locs ls hR hS hl
  obtain ⟨hx, hb, -, hown, hts⟩ := C
  have er : raw = .dup := of_decide_eq_true hk
  subst er
  obtain rfl := xm_il1 hil rfl
  exact lv_dup hx hb hd (xm_conc_cat _ _) (k H locs ls hR hS hl)
theorem xm_w_dup_x1 {v w : xm_V} (C : xm_ctx p s m args c cc nL o) (hd : decode cc pc = .ok (raw, len)) (hil : xm_il raw = 0 ∨ len = xm_il raw) (hk : xm_lk o pc ini rt raw (.dup_x1) = true)  (k : xm_W p l e R s m args below meth c Q nL D g α base t0 (pc + len) L (v :: w :: v :: st) S) : xm_W p l e R s m args below meth c Q nL D g α base t0 pc L (v :: w :: st) S := by
  intro H locs ls hR hS hl
  obtain ⟨hx, hb, -, hown, hts⟩ := C
  have er : raw = .dup_x1 := of_decide_eq_true hk
  subst er
  obtain rfl := xm_il1 hil rfl
  exact lv_dup_x1 hx hb hd (xm_conc_cat _ _) (xm_conc_cat _ _) (k H locs ls hR hS hl)
theorem xm_w_dup2 {v w : xm_V} (C : xm_ctx p s m args c cc nL o) (hd : decode cc pc = .ok (raw, len)) (hil : xm_il raw = 0 ∨ len = xm_il raw) (hk : xm_lk o pc ini rt raw (.dup2) = true)  (k : xm_W p l e R s m args below meth c Q nL D g α base t0 (pc + len) L (v :: w :: v :: w :: st) S) : xm_W p l e R s m args below meth c Q nL D g α base t0 pc L (v :: w :: st) S := by
  intro H locs ls hR hS hl
  obtain ⟨hx, hb, -, hown, hts⟩ := C
  have er : raw = .dup2 := of_decide_eq_true hk
  subst er
  obtain rfl := xm_il1 hil rfl
  exact lv_dup2_11 hx hb hd (xm_conc_cat _ _) (xm_conc_cat _ _) (k H locs ls hR hS hl)
theorem xm_w_pop {v : xm_V} (C : xm_ctx p s m args c cc nL o) (hd : decode cc pc = .ok (raw, len)) (hil : xm_il raw = 0 ∨ len = xm_il raw) (hk : xm_lk o pc ini rt raw (.pop) = true)  (k : xm_W p l e R s m args below meth c Q nL D g α base t0 (pc + len) L st S) : xm_W p l e R s m args below meth c Q nL D g α base t0 pc L (v :: st) S := by
  intro H locs ls hR hS hl
  obtain ⟨hx, hb, -, hown, hts⟩ := C
  have er : raw = .pop := of_decide_eq_true hk
  subst er
  obtain rfl := xm_il1 hil rfl
  exact lv_pop hx hb hd (xm_conc_cat _ _) (k H locs ls hR hS hl)
theorem xm_w_iload {i : Nat} {x : Int32} (C : xm_ctx p s m args c cc nL o) (hd : decode cc pc = .ok (raw, len)) (hil : xm_il raw = 0 ∨ len = xm_il raw) (hk : xm_lk o pc ini rt raw (.iload i) = true) (h : L[i]? = some (some (.inl x))) (k : xm_W p l e R s m args below meth c Q nL D g α base t0 (pc + len) L (.inl x :: st) S) : xm_W p l e R s m args below meth c Q nL D g α base t0 pc L st S := by
  intro H locs ls hR hS hl
  obtain ⟨hx, hb, -, hown, hts⟩ := C
  cases raw with
  | iload_n j =>
    obtain rfl := xm_il1 hil rfl
    exact lv_iload_n hx hb hd (eq_of_beq hk) (xm_lvs_at hl h) (k H locs ls hR hS hl)
  | iload j =>
    obtain rfl := xm_il1 hil rfl
    have ej : j = i := eq_of_beq hk
    subst ej
    exact lv_iload hx hb hd (xm_lvs_at hl h) (k H locs ls hR hS hl)
  | _ => cases hk
theorem xm_w_aload {i : Nat} {x : Option (Nat × Nat)} (C : xm_ctx p s m args c cc nL o) (hd : decode cc pc = .ok (raw, len)) (hil : xm_il raw = 0 ∨ len = xm_il raw) (hk : xm_lk o pc ini rt raw (.aload i) = true) (h : L[i]? = some (some (.inr x))) (k : xm_W p l e R s m args below meth c Q nL D g α base t0 (pc + len) L (.inr x :: st) S) : xm_W p l e R s m args below meth c Q nL D g α base t0 pc L st S := by
  intro H locs ls hR hS hl
  obtain ⟨hx, hb, -, hown, hts⟩ := C
  cases raw with
  | aload_n j =>
    obtain rfl := xm_il1 hil rfl
    cases x with
    | none => exact lv_aload_nN hx hb hd (eq_of_beq hk) (xm_lvs_at hl h) (k H locs ls hR hS hl)
    | some q => exact lv_aload_n hx hb hd (eq_of_beq hk) (xm_lvs_at hl h) (k H locs ls hR hS hl)
  | aload j =>
    obtain rfl := xm_il1 hil rfl
    have ej : j = i := eq_of_beq hk
    subst ej
    cases x with
    | none => exact lv_aloadN hx hb hd (xm_lvs_at hl h) (k H locs ls hR hS hl)
    | some q => exact lv_aload hx hb hd (xm_lvs_at hl h) (k H locs ls hR hS hl)
  | _ => cases hk
theorem xm_w_istore {i : Nat} {x : Int32} (C : xm_ctx p s m args c cc nL o) (hd : decode cc pc = .ok (raw, len)) (hil : xm_il raw = 0 ∨ len = xm_il raw) (hk : xm_lk o pc ini rt raw (.istore i) = true) (hi : i < L.length) (hln : L.length = nL) (k : xm_W p l e R s m args below meth c Q nL D g α base t0 (pc + len) (L.set i (some (.inl x))) st S) : xm_W p l e R s m args below meth c Q nL D g α base t0 pc L (.inl x :: st) S := by
  intro H locs ls hR hS hl
  obtain ⟨hx, hb, -, hown, hts⟩ := C
  cases raw with
  | istore_n j =>
    obtain rfl := xm_il1 hil rfl
    exact lv_istore_n hx hb hd (eq_of_beq hk) hl (by omega) rfl (fun ls' hl' => k H locs ls' hR hS (xm_lvs_set hi hl'))
  | istore j =>
    obtain rfl := xm_il1 hil rfl
    have ej : j = i := eq_of_beq hk
    subst ej
    exact lv_istore hx hb hd hl (by omega) rfl (fun ls' hl' => k H locs ls' hR hS (xm_lvs_set hi hl'))
  | _ => cases hk
theorem xm_w_astore {i : Nat} {x : Option (Nat × Nat)} (C : xm_ctx p s m args c cc nL o) (hd : decode cc pc = .ok (raw, len)) (hil : xm_il raw = 0 ∨ len = xm_il raw) (hk : xm_lk o pc ini rt raw (.astore i) = true) (hi : i < L.length) (hln : L.length = nL) (k : xm_W p l e R s m args below meth c Q nL D g α base t0 (pc + len) (L.set i (some (.inr x))) st S) : xm_W p l e R s m args below meth c Q nL D g α base t0 pc L (.inr x :: st) S := by
  intro H locs ls hR hS hl
  obtain ⟨hx, hb, -, hown, hts⟩ := C
  cases raw with
  | astore_n j =>
    obtain rfl := xm_il1 hil rfl
    cases x with
    | none => exact lv_astore_nN hx hb hd (eq_of_beq hk) hl (by omega) rfl (fun ls' hl' => k H locs ls' hR hS (xm_lvs_set hi hl'))
    | some q => exact lv_astore_n hx hb hd (eq_of_beq hk) hl (by omega) rfl (fun ls' hl' => k H locs ls' hR hS (xm_lvs_set hi hl'))
  | astore j =>
    obtain rfl := xm_il1 hil rfl
    have ej : j = i := eq_of_beq hk
    subst ej
    cases x with
    | none => exact lv_astoreN hx hb hd hl (by omega) rfl (fun ls' hl' => k H locs ls' hR hS (xm_lvs_set hi hl'))
    | some q => exact lv_astore hx hb hd hl (by omega) rfl (fun ls' hl' => k H locs ls' hR hS (xm_lvs_set hi hl'))
  | _ => cases hk
theorem xm_w_iinc {i : Nat} {n : Int} {x : Int32} (C : xm_ctx p s m args c cc nL o) (hd : decode cc pc = .ok (raw, len)) (hil : xm_il raw = 0 ∨ len = xm_il raw) (hk : xm_lk o pc ini rt raw (.iinc i n) = true) (h : L[i]? = some (some (.inl x))) (hln : L.length = nL) (k : xm_W p l e R s m args below meth c Q nL D g α base t0 (pc + len) (L.set i (some (.inl (x + Int32.ofInt n)))) st S) : xm_W p l e R s m args below meth c Q nL D g α base t0 pc L st S := by
  intro H locs ls hR hS hl
  obtain ⟨hx, hb, -, hown, hts⟩ := C
  have er : raw = .iinc i n := of_decide_eq_true hk
  subst er
  obtain rfl := xm_il1 hil rfl
  have hi : i < L.length := (List.getElem?_eq_some_iff.mp h).1
  obtain ⟨j, hj⟩ := List.getElem?_of_mem (xm_lvs_mem (α := α).mpr ⟨_, h, rfl⟩)
  exact lv_iinc hx hb hd hl hj rfl (by omega) rfl (fun ls' hl' => k H locs ls' hR hS (xm_lvs_set (v := .inl (x + Int32.ofInt n)) hi hl'))
theorem xm_tgt {pc : Nat} {f t : Int} (h : (decide ((pc : Int) + f = t) && decide (0 ≤ t)) = true) : (pc : Int) + f = ((t.toNat : Nat) : Int) := by
  simp only [Bool.and_eq_true, decide_eq_true_eq] at h
  rw [Int.toNat_of_nonneg h.2]
  exact h.1
theorem xm_w_if {cd : Jvm.ClassFile.Cond} {x : Int32} {t : Int} (C : xm_ctx p s m args c cc nL o) (hd : decode cc pc = .ok (raw, len)) (hil : xm_il raw = 0 ∨ len = xm_il raw) (hk : xm_lk o pc ini rt raw (.ifCond cd t) = true) (k : xm_W p l e R s m args below meth c Q nL D g α base t0 (if xm_cmp cd x 0 = true then t.toNat else pc + len) L st S) : xm_W p l e R s m args below meth c Q nL D g α base t0 pc L (.inl x :: st) S := by
  intro H locs ls hR hS hl
  obtain ⟨hx, hb, -, hown, hts⟩ := C
  cases raw with
  | ifCond cd2 f =>
    obtain rfl := xm_il1 hil rfl
    obtain ⟨e1, e2⟩ := Bool.and_eq_true_iff.mp (show (decide (cd = cd2) && (decide ((pc : Int) + f = t) && decide (0 ≤ t))) = true from hk)
    have e1 := of_decide_eq_true e1
    subst e1
    have e3 := xm_tgt e2
    have kk := k H locs ls hR hS hl
    cases cd with
    | eq => exact lv_if_eq hx hb hd e3 (fun z => by rw [if_pos (show xm_cmp .eq x 0 = true from decide_eq_true z)] at kk; exact kk) (fun z => by rw [if_neg (show ¬ xm_cmp .eq x 0 = true from fun w => z (of_decide_eq_true w))] at kk; exact kk)
    | ne => exact lv_if_ne hx hb hd e3 (fun z => by rw [if_pos (show xm_cmp .ne x 0 = true from decide_eq_true z)] at kk; exact kk) (fun z => by rw [if_neg (show ¬ xm_cmp .ne x 0 = true from fun w => of_decide_eq_true w z)] at kk; exact kk)
    | lt => exact lv_if_lt hx hb hd e3 (fun z => by rw [if_pos (show xm_cmp .lt x 0 = true from decide_eq_true z)] at kk; exact kk) (fun z => by rw [if_neg (show ¬ xm_cmp .lt x 0 = true from fun w => z (of_decide_eq_true w))] at kk; exact kk)
    | ge => exact lv_if_ge hx hb hd e3 (fun z => by rw [if_pos (show xm_cmp .ge x 0 = true from decide_eq_true z)] at kk; exact kk) (fun z => by rw [if_neg (show ¬ xm_cmp .ge x 0 = true from fun w => z (of_decide_eq_true w))] at kk; exact kk)
    | gt => exact lv_if_gt hx hb hd e3 (fun z => by rw [if_pos (show xm_cmp .gt x 0 = true from decide_eq_true z)] at kk; exact kk) (fun z => by rw [if_neg (show ¬ xm_cmp .gt x 0 = true from fun w => z (of_decide_eq_true w))] at kk; exact kk)
    | le => exact lv_if_le hx hb hd e3 (fun z => by rw [if_pos (show xm_cmp .le x 0 = true from decide_eq_true z)] at kk; exact kk) (fun z => by rw [if_neg (show ¬ xm_cmp .le x 0 = true from fun w => z (of_decide_eq_true w))] at kk; exact kk)
  | _ => cases hk
theorem xm_w_icmp {cd : Jvm.ClassFile.Cond} {x y : Int32} {t : Int} (C : xm_ctx p s m args c cc nL o) (hd : decode cc pc = .ok (raw, len)) (hil : xm_il raw = 0 ∨ len = xm_il raw) (hk : xm_lk o pc ini rt raw (.if_icmp cd t) = true) (k : xm_W p l e R s m args below meth c Q nL D g α base t0 (if xm_cmp cd x y = true then t.toNat else pc + len) L st S) : xm_W p l e R s m args below meth c Q nL D g α base t0 pc L (.inl y :: .inl x :: st) S := by
  intro H locs ls hR hS hl
  obtain ⟨hx, hb, -, hown, hts⟩ := C
  cases raw with
  | if_icmp cd2 f =>
    obtain rfl := xm_il1 hil rfl
    obtain ⟨e1, e2⟩ := Bool.and_eq_true_iff.mp (show (decide (cd = cd2) && (decide ((pc : Int) + f = t) && decide (0 ≤ t))) = true from hk)
    have e1 := of_decide_eq_true e1
    subst e1
    have e3 := xm_tgt e2
    have kk := k H locs ls hR hS hl
    cases cd with
    | eq => exact lv_icmp_eq hx hb hd e3 (fun z => by rw [if_pos (show xm_cmp .eq x y = true from decide_eq_true z)] at kk; exact kk) (fun z => by rw [if_neg (show ¬ xm_cmp .eq x y = true from fun w => z (of_decide_eq_true w))] at kk; exact kk)
    | ne => exact lv_icmp_ne hx hb hd e3 (fun z => by rw [if_pos (show xm_cmp .ne x y = true from decide_eq_true z)] at kk; exact kk) (fun z => by rw [if_neg (show ¬ xm_cmp .ne x y = true from fun w => of_decide_eq_true w z)] at kk; exact kk)
    | lt => exact lv_icmp_lt hx hb hd e3 (fun z => by rw [if_pos (show xm_cmp .lt x y = true from decide_eq_true z)] at kk; exact kk) (fun z => by rw [if_neg (show ¬ xm_cmp .lt x y = true from fun w => z (of_decide_eq_true w))] at kk; exact kk)
    | ge => exact lv_icmp_ge hx hb hd e3 (fun z => by rw [if_pos (show xm_cmp .ge x y = true from decide_eq_true z)] at kk; exact kk) (fun z => by rw [if_neg (show ¬ xm_cmp .ge x y = true from fun w => z (of_decide_eq_true w))] at kk; exact kk)
    | gt => exact lv_icmp_gt hx hb hd e3 (fun z => by rw [if_pos (show xm_cmp .gt x y = true from decide_eq_true z)] at kk; exact kk) (fun z => by rw [if_neg (show ¬ xm_cmp .gt x y = true from fun w => z (of_decide_eq_true w))] at kk; exact kk)
    | le => exact lv_icmp_le hx hb hd e3 (fun z => by rw [if_pos (show xm_cmp .le x y = true from decide_eq_true z)] at kk; exact kk) (fun z => by rw [if_neg (show ¬ xm_cmp .le x y = true from fun w => z (of_decide_eq_true w))] at kk; exact kk)
  | _ => cases hk
theorem xm_w_goto {t : Int} (C : xm_ctx p s m args c cc nL o) (hd : decode cc pc = .ok (raw, len)) (hil : xm_il raw = 0 ∨ len = xm_il raw) (hk : xm_lk o pc ini rt raw (.goto t) = true) (k : xm_W p l e R s m args below meth c Q nL D g α base t0 t.toNat L st S) : xm_W p l e R s m args below meth c Q nL D g α base t0 pc L st S := by
  intro H locs ls hR hS hl
  obtain ⟨hx, hb, -, hown, hts⟩ := C
  cases raw with
  | goto f =>
    obtain rfl := xm_il1 hil rfl
    exact lv_goto hx hb hd (xm_tgt hk) (k H locs ls hR hS hl)
  | _ => cases hk
theorem xm_w_ifnull {x : Option (Nat × Nat)} {t : Int} (C : xm_ctx p s m args c cc nL o) (hd : decode cc pc = .ok (raw, len)) (hil : xm_il raw = 0 ∨ len = xm_il raw) (hk : xm_lk o pc ini rt raw (.ifnull t) = true) (k : xm_W p l e R s m args below meth c Q nL D g α base t0 (if x = none then t.toNat else pc + len) L st S) : xm_W p l e R s m args below meth c Q nL D g α base t0 pc L (.inr x :: st) S := by
  intro H locs ls hR hS hl
  obtain ⟨hx, hb, -, hown, hts⟩ := C
  have kk := k H locs ls hR hS hl
  cases raw with
  | ifnull f =>
    obtain rfl := xm_il1 hil rfl
    cases x with
    | none => rw [if_pos rfl] at kk; exact lv_ifnullN hx hb hd (xm_tgt hk) kk
    | some q => rw [if_neg (by simp)] at kk; exact lv_ifnull hx hb hd kk
  | _ => cases hk
theorem xm_w_ifnonnull {x : Option (Nat × Nat)} {t : Int} (C : xm_ctx p s m args c cc nL o) (hd : decode cc pc = .ok (raw, len)) (hil : xm_il raw = 0 ∨ len = xm_il raw) (hk : xm_lk o pc ini rt raw (.ifnonnull t) = true) (k : xm_W p l e R s m args below meth c Q nL D g α base t0 (if x = none then pc + len else t.toNat) L st S) : xm_W p l e R s m args below meth c Q nL D g α base t0 pc L (.inr x :: st) S := by
  intro H locs ls hR hS hl
  obtain ⟨hx, hb, -, hown, hts⟩ := C
  have kk := k H locs ls hR hS hl
  cases raw with
  | ifnonnull f =>
    obtain rfl := xm_il1 hil rfl
    cases x with
    | none => rw [if_pos rfl] at kk; exact lv_ifnonnullN hx hb hd kk
    | some q => rw [if_neg (by simp)] at kk; exact lv_ifnonnull hx hb hd (xm_tgt hk) kk
  | _ => cases hk
end XMW
