/-! ===== new objects and arrays, casts, comparisons of references, switches ===== -/
theorem xm_default {c j : Nat} (hc : c < 13) (hj : j < xm_nf c) (α : Nat → Nat → Nat) : defaultValue (xm_fty c j) = xm_conc α (if xm_ty c j < 2 then .inl 0 else .inr none) := by
  have h := xm_ty_ok hc hj
  have h2 := xm_fty_ok hc hj
  unfold xm_tyok at h
  rw [h2] at h
  generalize xm_fty c j = t at h
  cases t with
  | int => rw [if_pos (by have := of_decide_eq_true h; omega)]; rfl
  | boolean => rw [if_pos (by have := of_decide_eq_true h; omega)]; rfl
  | object C => rw [if_neg (by have := of_decide_eq_true h; omega)]; rfl
  | array t => rw [if_neg (by have := of_decide_eq_true h; omega)]; rfl
  | _ => cases h
theorem xm_mk_get (c N : Nat) (S : xm_S) (j : Nat) : xm_get (xm_mk c N S) c (xm_n S 0 c) j = if xm_ty c j < 2 then .inl 0 else .inr none := by
  unfold xm_get
  show (if xm_ty c j < 2 then (Sum.inl (if c = c ∧ xm_n S 0 c = xm_n S 0 c then 0 else xm_i S c (xm_n S 0 c) j) : xm_V) else xm_rf (xm_ty c j - 2) (if c = c ∧ xm_n S 0 c = xm_n S 0 c then none else xm_r S c (xm_n S 0 c) j)) = _
  rw [if_pos (⟨rfl, rfl⟩ : c = c ∧ xm_n S 0 c = xm_n S 0 c), if_pos (⟨rfl, rfl⟩ : c = c ∧ xm_n S 0 c = xm_n S 0 c)]
  rfl
section XMN
variable {p : Program} {l : Launch} {e : Env} {R : Room} {s : State} {m : MethodId} {args : Array Value} {below : List Frame} {meth : Method} {c : Code} {Q : State → Prop} {cc : ByteArray} {nL o : Nat} {D : va_G} {g : xm_G} {α : Nat → Nat → Nat} {base t0 : Nat} {pc : Nat} {L : xm_L} {st : List xm_V} {S : xm_S} {ini : Bool} {rt : Option FieldType} {raw : Instr} {len : Nat}
theorem xm_w_new {ck : Nat} (C : xm_ctx p s m args c cc nL o) (hd : decode cc pc = .ok (raw, len)) (hil : xm_il raw = 0 ∨ len = xm_il raw) (E : xm_env D g α base s) (hk : xm_lk o pc ini rt raw (.new ck) = true) (hα : α ck (xm_n S 0 ck) = xm_n S 0 100) (hcells : xm_n S 0 100 + 1 - s.heap.size ≤ R.cells) (hslots : xm_n S 0 101 + xm_nf ck - t0 ≤ R.slots) (ht : t0 ≤ xm_n S 0 101)
    (kk : xm_W p l e R s m args below meth c Q nL D g α base t0 (pc + len) L (.inr (some (ck, xm_n S 0 ck)) :: st) (xm_mk ck (xm_nf ck) S)) : xm_W p l e R s m args below meth c Q nL D g α base t0 pc L st S := by
  intro H locs ls hR hS hl
  obtain ⟨hx, hb, -, hown, hts⟩ := C
  cases raw with
  | new j =>
    obtain rfl := xm_il1 hil rfl
    obtain ⟨e1, e2⟩ := Bool.and_eq_true_iff.mp (show (xm_has xm_kl o j ck && decide (ck ≤ 12)) = true from hk)
    have hw := hts _ (xm_kl_in _ (xm_has_in e1))
    unfold xm_kword at hw
    have hc : ck ≤ 12 := of_decide_eq_true e2
    have hcl := xm_cl_at ck (by omega)
    have hKn := E.1.1 _ _ hcl
    have hsz : H.size = xm_n S 0 100 := hR.1.1
    have hle := hS.1
    refine W.newcK hx hb hown hw (hts _ (xm_inst_in ck (List.mem_range.mpr (by omega)))) (hts _ (xm_init_in ck (List.mem_range.mpr (by omega)))) rfl hd (by omega) (by omega) hKn.2.1 hsz (fun H' kC hkC a1 a2 a3 => ?_)
    have hborn := u_born (xm_fty ck) hts (xm_ws_in (c := ck) (by omega)) hKn hkC a1 (fun j hj => xm_fty_ok (by omega) hj)
    rw [← hα] at hborn
    have hob : xm_obj D g α (xm_mk ck (xm_nf ck) S) ck (xm_n S 0 ck) H' := by
      unfold xm_obj
      split
      · refine hborn.to (fun j hj => ?_)
        rw [xm_mk_get]
        exact xm_default (by omega) hj α
      · rename_i h12
        have e12 : ck = 12 := by omega
        subst e12
        rw [if_pos rfl]
        refine ⟨0, .null, ?_, Or.inl ⟨xm_mk_l0 _ S 2 (Or.inr rfl), rfl, xm_mk_l0 _ S 1 (Or.inl rfl)⟩⟩
        rw [xm_mk_l0 _ S 1 (Or.inl rfl)]
        refine hborn.to (fun j hj => ?_)
        have hj3 : j < 3 := hj
        have hj4 : j = 0 ∨ j = 1 ∨ j = 2 := by omega
        rw [xm_default (by decide) hj α]
        rcases hj4 with rfl | rfl | rfl <;> rfl
    have k2 := kk H' locs ls (hR.mk (N := xm_nf ck) (by omega) hα (by rw [a2, hsz]) (fun q hq => a3 q (by rw [← hsz]; exact hq)) hob) ⟨by rw [a2]; omega, fun q q1 q2 => (a3 q (by omega)).trans (hS.2.1 q q1 q2), hS.2.2⟩ hl
    rw [xm_mk_100 _ _ _ (by omega), xm_mk_101 _ _ _ (by omega), show xm_n S 0 100 + 1 - s.heap.size = xm_n S 0 100 - s.heap.size + 1 by omega, show xm_n S 0 101 + xm_nf ck - t0 = xm_n S 0 101 - t0 + xm_nf ck by omega] at k2
    have e9 : (xm_conc α (.inr (some (ck, xm_n S 0 ck)))) = Value.ref (xm_n S 0 100) := by
      show Value.ref (α ck (xm_n S 0 ck)) = _
      rw [hα]
    rw [List.map_cons, e9] at k2
    exact k2
  | _ => cases hk
theorem xm_w_newi {x : Int32} (C : xm_ctx p s m args c cc nL o) (hd : decode cc pc = .ok (raw, len)) (hil : xm_il raw = 0 ∨ len = xm_il raw) (E : xm_env D g α base s) (hk : xm_lk o pc ini rt raw (.newarray .int) = true) (hx0 : ¬ (x < 0 ∨ 20000 < x.toNatClampNeg)) (hα : α 13 (xm_n S 0 13) = xm_n S 0 100) (hcells : xm_n S 0 100 + 1 - s.heap.size ≤ R.cells) (hslots : xm_n S 0 101 + x.toNatClampNeg - t0 ≤ R.slots) (ht : t0 ≤ xm_n S 0 101)
    (kk : xm_W p l e R s m args below meth c Q nL D g α base t0 (pc + len) L (.inr (some (13, xm_n S 0 13)) :: st) (xm_mk 13 x.toNatClampNeg S)) : xm_W p l e R s m args below meth c Q nL D g α base t0 pc L (.inl x :: st) S := by
  intro H locs ls hR hS hl
  obtain ⟨hx, hb, -, hown, hts⟩ := C
  have er : raw = .newarray .int := of_decide_eq_true hk
  subst er
  obtain rfl := xm_il1 hil rfl
  have hsz : H.size = xm_n S 0 100 := hR.1.1
  have hle := hS.1
  have h2 : x.toNatClampNeg ≤ 20000 := Nat.not_lt.mp fun z => hx0 (Or.inr z)
  have hbytes : x.toNatClampNeg * componentBytes (newarray.typeOf .int) ≤ 536870912 := Nat.le_trans (Nat.mul_le_mul h2 (show componentBytes (newarray.typeOf .int) ≤ 8 by decide)) (by decide)
  refine va_newaK (N := x.toNatClampNeg) hx hb (atype := .int) (hts (.arrayClass .int) (by decide +kernel)) rfl hd rfl (fun z => hx0 (Or.inl z)) rfl hbytes (by omega) (by omega) hsz (fun H' cA a1 a2 a3 a4 a5 => ?_)
  have hcA : cA = g.1 := by
    have h9 : s.vm.findClass ("[" ++ (FieldType.int).toString) = some g.1 := (E.1.2 0 (g.1, .int) rfl).2
    exact Option.some.inj (a5.symm.trans h9)
  subst hcA
  have hob : xm_obj D g α (xm_mk 13 x.toNatClampNeg S) 13 (xm_n S 0 13) H' := by
    show H'[α 13 (xm_n S 0 13)]? = some (arrV g.1 (xm_n (xm_mk 13 x.toNatClampNeg S) (10 + 13) (xm_n S 0 13)) (fun j => .int (if 13 = 13 ∧ xm_n S 0 13 = xm_n S 0 13 then 0 else xm_i S 13 (xm_n S 0 13) j)))
    rw [hα, xm_mk_len, a1]
    simp only [and_self, if_true]
    rfl
  have k2 := kk H' locs ls (hR.mk (N := x.toNatClampNeg) (by decide) hα (by rw [a2, hsz]) (fun q hq => a3 q (by rw [← hsz]; exact hq)) hob) ⟨by rw [a2]; omega, fun q q1 q2 => (a3 q (by omega)).trans (hS.2.1 q q1 q2), hS.2.2⟩ hl
  rw [xm_mk_100 _ _ _ (by decide), xm_mk_101 _ _ _ (by decide), show xm_n S 0 100 + 1 - s.heap.size = xm_n S 0 100 - s.heap.size + 1 by omega, show xm_n S 0 101 + x.toNatClampNeg - t0 = xm_n S 0 101 - t0 + x.toNatClampNeg by omega] at k2
  have e9 : (xm_conc α (.inr (some (13, xm_n S 0 13)))) = Value.ref (xm_n S 0 100) := by
    show Value.ref (α 13 (xm_n S 0 13)) = _
    rw [hα]
  rw [List.map_cons, e9] at k2
  exact k2
theorem xm_w_newz {x : Int32} (C : xm_ctx p s m args c cc nL o) (hd : decode cc pc = .ok (raw, len)) (hil : xm_il raw = 0 ∨ len = xm_il raw) (E : xm_env D g α base s) (hk : xm_lk o pc ini rt raw (.newarray .boolean) = true) (hx0 : ¬ (x < 0 ∨ 20000 < x.toNatClampNeg)) (hα : α 14 (xm_n S 0 14) = xm_n S 0 100) (hcells : xm_n S 0 100 + 1 - s.heap.size ≤ R.cells) (hslots : xm_n S 0 101 + x.toNatClampNeg - t0 ≤ R.slots) (ht : t0 ≤ xm_n S 0 101)
    (kk : xm_W p l e R s m args below meth c Q nL D g α base t0 (pc + len) L (.inr (some (14, xm_n S 0 14)) :: st) (xm_mk 14 x.toNatClampNeg S)) : xm_W p l e R s m args below meth c Q nL D g α base t0 pc L (.inl x :: st) S := by
  intro H locs ls hR hS hl
  obtain ⟨hx, hb, -, hown, hts⟩ := C
  have er : raw = .newarray .boolean := of_decide_eq_true hk
  subst er
  obtain rfl := xm_il1 hil rfl
  have hsz : H.size = xm_n S 0 100 := hR.1.1
  have hle := hS.1
  have h2 : x.toNatClampNeg ≤ 20000 := Nat.not_lt.mp fun z => hx0 (Or.inr z)
  have hbytes : x.toNatClampNeg * componentBytes (newarray.typeOf .boolean) ≤ 536870912 := Nat.le_trans (Nat.mul_le_mul h2 (show componentBytes (newarray.typeOf .boolean) ≤ 8 by decide)) (by decide)
  refine va_newaK (N := x.toNatClampNeg) hx hb (atype := .boolean) (hts (.arrayClass .boolean) (by decide +kernel)) rfl hd rfl (fun z => hx0 (Or.inl z)) rfl hbytes (by omega) (by omega) hsz (fun H' cA a1 a2 a3 a4 a5 => ?_)
  have hcA : cA = g.2.1 := by
    have h9 : s.vm.findClass ("[" ++ (FieldType.boolean).toString) = some g.2.1 := (E.1.2 1 (g.2.1, .boolean) rfl).2
    exact Option.some.inj (a5.symm.trans h9)
  subst hcA
  have hob : xm_obj D g α (xm_mk 14 x.toNatClampNeg S) 14 (xm_n S 0 14) H' := by
    show H'[α 14 (xm_n S 0 14)]? = some (arrV g.2.1 (xm_n (xm_mk 14 x.toNatClampNeg S) (10 + 14) (xm_n S 0 14)) (fun j => .int (if 14 = 14 ∧ xm_n S 0 14 = xm_n S 0 14 then 0 else xm_i S 14 (xm_n S 0 14) j)))
    rw [hα, xm_mk_len, a1]
    simp only [and_self, if_true]
    rfl
  have k2 := kk H' locs ls (hR.mk (N := x.toNatClampNeg) (by decide) hα (by rw [a2, hsz]) (fun q hq => a3 q (by rw [← hsz]; exact hq)) hob) ⟨by rw [a2]; omega, fun q q1 q2 => (a3 q (by omega)).trans (hS.2.1 q q1 q2), hS.2.2⟩ hl
  rw [xm_mk_100 _ _ _ (by decide), xm_mk_101 _ _ _ (by decide), show xm_n S 0 100 + 1 - s.heap.size = xm_n S 0 100 - s.heap.size + 1 by omega, show xm_n S 0 101 + x.toNatClampNeg - t0 = xm_n S 0 101 - t0 + x.toNatClampNeg by omega] at k2
  have e9 : (xm_conc α (.inr (some (14, xm_n S 0 14)))) = Value.ref (xm_n S 0 100) := by
    show Value.ref (α 14 (xm_n S 0 14)) = _
    rw [hα]
  rw [List.map_cons, e9] at k2
  exact k2
theorem xm_w_newq {x : Int32} {cq : Nat} (C : xm_ctx p s m args c cc nL o) (hd : decode cc pc = .ok (raw, len)) (hil : xm_il raw = 0 ∨ len = xm_il raw) (E : xm_env D g α base s) (hk : xm_lk o pc ini rt raw (.anewarray cq) = true) (hx0 : ¬ (x < 0 ∨ 20000 < x.toNatClampNeg)) (hα : α 15 (xm_n S 0 15) = xm_n S 0 100) (hcells : xm_n S 0 100 + 1 - s.heap.size ≤ R.cells) (hslots : xm_n S 0 101 + x.toNatClampNeg - t0 ≤ R.slots) (ht : t0 ≤ xm_n S 0 101)
    (kk : xm_W p l e R s m args below meth c Q nL D g α base t0 (pc + len) L (.inr (some (15, xm_n S 0 15)) :: st) (xm_mk 15 x.toNatClampNeg S)) : xm_W p l e R s m args below meth c Q nL D g α base t0 pc L (.inl x :: st) S := by
  intro H locs ls hR hS hl
  obtain ⟨hx, hb, -, hown, hts⟩ := C
  cases raw with
  | anewarray j =>
    obtain rfl := xm_il1 hil rfl
    obtain ⟨e1, e2⟩ := Bool.and_eq_true_iff.mp (show (xm_has xm_kl o j 2 && decide (cq = 2)) = true from hk)
    have hw := hts _ (xm_kl_in _ (xm_has_in e1))
    have hw : (Cond.classLink (xm_cn o) j "WaterWorks$Call").before args s = true := hw
    have hsz : H.size = xm_n S 0 100 := hR.1.1
    have hle := hS.1
    have h2 : x.toNatClampNeg ≤ 20000 := Nat.not_lt.mp fun z => hx0 (Or.inr z)
    refine W.anew hx hb hown hw (va_AO.use E.2.1.1) rfl hd rfl (fun z => hx0 (Or.inl z)) (by omega) (by omega) (by omega) (fun cA kA comp f1 f2 f3 f4 => ?_)
    have hcA : cA = g.2.2.1 := by
      obtain ⟨kA', comp', k1, k2, k3, k4⟩ := (E.1.2 2 (g.2.2.1, .object "WaterWorks$Call") rfl).2
      exact Option.some.inj (f1.symm.trans k4)
    subst hcA
    generalize hH1 : H.push ({ cls := g.2.2.1, slots := Array.replicate x.toNatClampNeg .null, vm := .none } : Cell) = H'
    have a2 : H'.size = H.size + 1 := by rw [← hH1, Array.size_push]
    have a1 : H'[H.size]? = some (arrV g.2.2.1 x.toNatClampNeg (fun _ => .null)) := by rw [← hH1, Array.getElem?_push_size, ← arrV_new]
    have a3 : ∀ q : Nat, q < H.size → H'[q]? = H[q]? := fun q hq => by rw [← hH1, Array.getElem?_push, if_neg (Nat.ne_of_lt hq)]
    have hob : xm_obj D g α (xm_mk 15 x.toNatClampNeg S) 15 (xm_n S 0 15) H' := by
      show H'[α 15 (xm_n S 0 15)]? = some (arrV g.2.2.1 (xm_n (xm_mk 15 x.toNatClampNeg S) (10 + 15) (xm_n S 0 15)) (fun j => xm_conc α (xm_rf 2 (if 15 = 15 ∧ xm_n S 0 15 = xm_n S 0 15 then none else xm_r S 15 (xm_n S 0 15) j))))
      rw [hα, xm_mk_len, ← hsz, a1]
      simp only [and_self, if_true]
      rfl
    have k2 := kk H' locs ls (hR.mk (N := x.toNatClampNeg) (by decide) hα a2 a3 hob) ⟨by rw [a2]; omega, fun q q1 q2 => (a3 q (by omega)).trans (hS.2.1 q q1 q2), hS.2.2⟩ hl
    rw [xm_mk_100 _ _ _ (by decide), xm_mk_101 _ _ _ (by decide), show xm_n S 0 100 + 1 - s.heap.size = xm_n S 0 100 - s.heap.size + 1 by omega, show xm_n S 0 101 + x.toNatClampNeg - t0 = xm_n S 0 101 - t0 + x.toNatClampNeg by omega] at k2
    have e9 : (xm_conc α (.inr (some (15, xm_n S 0 15)))) = Value.ref H.size := by
      show Value.ref (α 15 (xm_n S 0 15)) = _
      rw [hα, hsz]
    rw [List.map_cons, e9] at k2
    exact k2
  | _ => cases hk
theorem xm_w_castN {cq : Nat} (C : xm_ctx p s m args c cc nL o) (hd : decode cc pc = .ok (raw, len)) (hil : xm_il raw = 0 ∨ len = xm_il raw) (hk : xm_lk o pc ini rt raw (.checkcast cq) = true) (kk : xm_W p l e R s m args below meth c Q nL D g α base t0 (pc + len) L (.inr none :: st) S) : xm_W p l e R s m args below meth c Q nL D g α base t0 pc L (.inr none :: st) S := by
  intro H locs ls hR hS hl
  obtain ⟨hx, hb, -, hown, hts⟩ := C
  cases raw with
  | checkcast j =>
    obtain rfl := xm_il1 hil rfl
    exact lv_castN hx hb hd (kk H locs ls hR hS hl)
  | _ => cases hk
theorem xm_w_cast {cq k : Nat} (C : xm_ctx p s m args c cc nL o) (hd : decode cc pc = .ok (raw, len)) (hil : xm_il raw = 0 ∨ len = xm_il raw) (E : xm_env D g α base s) (hk : xm_lk o pc ini rt raw (.checkcast cq) = true) (hal : k < xm_n S 0 cq) (kk : xm_W p l e R s m args below meth c Q nL D g α base t0 (pc + len) L (.inr (some (cq, k)) :: st) S) : xm_W p l e R s m args below meth c Q nL D g α base t0 pc L (.inr (some (cq, k)) :: st) S := by
  intro H locs ls hR hS hl
  obtain ⟨hx, hb, -, hown, hts⟩ := C
  cases raw with
  | checkcast j =>
    obtain rfl := xm_il1 hil rfl
    obtain ⟨e1, e2⟩ := Bool.and_eq_true_iff.mp (show (xm_has xm_kl o j cq && decide (cq < 12)) = true from hk)
    have hw := hts _ (xm_kl_in _ (xm_has_in e1))
    unfold xm_kword at hw
    have hc : cq < 12 := of_decide_eq_true e2
    have hob := hR.2.2.2.2.1 cq k (by omega) hal
    unfold xm_obj at hob
    rw [if_pos hc] at hob
    obtain ⟨cell, q1, q2, q3, -⟩ := hob
    have hKn := E.1.1 _ _ (xm_cl_at cq (by omega))
    exact va_castS hx hb hown hw hKn.2 ⟨cell, q1, by rw [q3]; rfl, by rw [q2]; exact hKn.2.1⟩ hd (kk H locs ls hR hS hl)
  | _ => cases hk
theorem xm_conc_rf (α : Nat → Nat → Nat) (x : Option (Nat × Nat)) : xm_conc α (.inr x) = va_rf (x.map (fun q => α q.1 q.2)) := by
  cases x <;> rfl
theorem xm_inj {H : Heap} (hR : xm_rel D g α base S s H) {x y : Option (Nat × Nat)} (h1 : xm_k12 x = true) (h2 : xm_k12 y = true) (a1 : xm_alv S (.inr x)) (a2 : xm_alv S (.inr y)) : x.map (fun q => α q.1 q.2) = y.map (fun q => α q.1 q.2) ↔ x = y := by
  constructor
  · intro h
    cases x with
    | none => cases y with
      | none => rfl
      | some q => cases h
    | some q => cases y with
      | none => cases h
      | some r =>
        obtain ⟨q1, q2⟩ := q
        obtain ⟨r1, r2⟩ := r
        have e1 := of_decide_eq_true h1
        have e2 := of_decide_eq_true h2
        obtain ⟨z1, z2⟩ := hR.2.2.1 q1 q2 r1 r2 (by omega) (by omega) (a1 _ _ rfl).2 (a2 _ _ rfl).2 (Option.some.inj h)
        rw [z1, z2]
  · intro h
    rw [h]
theorem xm_w_acmp {x y : Option (Nat × Nat)} {t : Int} {cd : ACond} (C : xm_ctx p s m args c cc nL o) (hd : decode cc pc = .ok (raw, len)) (hil : xm_il raw = 0 ∨ len = xm_il raw) (hk : xm_lk o pc ini rt raw (.if_acmp cd t) = true) (h1 : xm_k12 x = true) (h2 : xm_k12 y = true) (a1 : xm_alv S (.inr x)) (a2 : xm_alv S (.inr y)) (kk : xm_W p l e R s m args below meth c Q nL D g α base t0 (match cd with | .eq => if x = y then t.toNat else pc + len | .ne => if x = y then pc + len else t.toNat) L st S) : xm_W p l e R s m args below meth c Q nL D g α base t0 pc L (.inr y :: .inr x :: st) S := by
  intro H locs ls hR hS hl
  obtain ⟨hx, hb, -, hown, hts⟩ := C
  cases raw with
  | if_acmp cd2 f =>
    obtain rfl := xm_il1 hil rfl
    obtain ⟨e1, e2⟩ := Bool.and_eq_true_iff.mp (show (decide (cd = cd2) && (decide ((pc : Int) + f = t) && decide (0 ≤ t))) = true from hk)
    have e1 := of_decide_eq_true e1
    subst e1
    have e3 := xm_tgt e2
    have k := kk H locs ls hR hS hl
    rw [List.map_cons, List.map_cons, xm_conc_rf, xm_conc_rf]
    have hj := xm_inj hR h1 h2 a1 a2
    cases cd with
    | eq => exact lv_acmp_eq hx hb hd e3 (fun z => by have k : W p l e R s m args below meth c H locs _ _ Q (F0 m (if x = y then t.toNat else pc + (2 + 1)) ls (st.map (xm_conc α))) := k; rw [if_pos (hj.mp z)] at k; exact k) (fun z => by have k : W p l e R s m args below meth c H locs _ _ Q (F0 m (if x = y then t.toNat else pc + (2 + 1)) ls (st.map (xm_conc α))) := k; rw [if_neg (fun w => z (hj.mpr w))] at k; exact k)
    | ne => exact lv_acmp_ne hx hb hd e3 (fun z => by have k : W p l e R s m args below meth c H locs _ _ Q (F0 m (if x = y then pc + (2 + 1) else t.toNat) ls (st.map (xm_conc α))) := k; rw [if_neg (fun w => z (hj.mpr w))] at k; exact k) (fun z => by have k : W p l e R s m args below meth c H locs _ _ Q (F0 m (if x = y then pc + (2 + 1) else t.toNat) ls (st.map (xm_conc α))) := k; rw [if_pos (hj.mp z)] at k; exact k)
  | _ => cases hk
theorem xm_w_table {x : Int32} {d lo hi : Int} {os : Array Int} (C : xm_ctx p s m args c cc nL o) (hd : decode cc pc = .ok (raw, len)) (hil : xm_il raw = 0 ∨ len = xm_il raw) (hk : xm_lk o pc ini rt raw (.tableswitch d lo hi os) = true) (kk : xm_W p l e R s m args below meth c Q nL D g α base t0 (if x.toInt < lo ∨ hi < x.toInt then d.toNat else (os.getD (x.toInt - lo).toNat 0).toNat) L st S) : xm_W p l e R s m args below meth c Q nL D g α base t0 pc L (.inl x :: st) S := by
  intro H locs ls hR hS hl
  obtain ⟨hx, hb, -, hown, hts⟩ := C
  have k := kk H locs ls hR hS hl
  cases raw with
  | tableswitch d' lo' hi' os' =>
    have hk : (decide (lo = lo') && (decide (hi = hi') && (decide ((pc : Int) + d' = d) && (decide (0 ≤ d) && (decide (os.toList = os'.toList.map (fun f => (pc : Int) + f)) && (os.toList.all (fun t => decide (0 ≤ t)) && decide ((os.size : Int) = hi - lo + 1))))))) = true := hk
    simp only [Bool.and_eq_true, decide_eq_true_eq, List.all_eq_true] at hk
    obtain ⟨rfl, rfl, e1, e2, e3, e4, e5⟩ := hk
    by_cases hr : x.toInt < lo ∨ hi < x.toInt
    · rw [if_pos hr] at k
      exact lv_tableOut hx hb hd hr (by rw [Int.toNat_of_nonneg e2]; exact e1) k
    · rw [if_neg hr] at k
      have hlt : (x.toInt - lo).toNat < os.size := by omega
      have hlen : os.size = os'.size := by
        have := congrArg List.length e3
        simpa using this
      have hlt' : (x.toInt - lo).toNat < os'.size := by omega
      have e6 : os[(x.toInt - lo).toNat] = (pc : Int) + os'[(x.toInt - lo).toNat] := by
        have := congrArg (fun l : List Int => l[(x.toInt - lo).toNat]?) e3
        simp only [List.getElem?_map, Array.getElem?_toList] at this
        rw [Array.getElem?_eq_getElem hlt, Array.getElem?_eq_getElem hlt'] at this
        exact Option.some.inj this
      have e7 : os.getD (x.toInt - lo).toNat 0 = os[(x.toInt - lo).toNat] := by
        simp [Array.getD, hlt]
      rw [e7] at k
      refine lv_tableIn hx hb hd (fun z => hr (Or.inl z)) (fun z => hr (Or.inr z)) (off := os'[(x.toInt - lo).toNat]) (Array.getElem?_eq_getElem hlt') ?_ k
      rw [Int.toNat_of_nonneg (e4 _ (by rw [Array.mem_toList_iff]; exact Array.getElem_mem hlt))]
      exact e6.symm
  | _ => cases hk
theorem xm_lko (ps ps' : List (Int × Int)) (pc : Nat) (d d' x : Int) (h : ps = ps'.map (fun f => (f.1, (pc : Int) + f.2))) (hd : (pc : Int) + d' = d) : Op.lookupswitch.offset ps d x = (pc : Int) + Op.lookupswitch.offset ps' d' x := by
  subst h
  induction ps' with
  | nil => simp [Op.lookupswitch.offset, hd]
  | cons q t ih =>
    simp only [List.map_cons, Op.lookupswitch.offset]
    split
    · rfl
    · exact ih
theorem xm_w_lookup {x : Int32} {d : Int} {ps : Array (Int × Int)} (C : xm_ctx p s m args c cc nL o) (hd : decode cc pc = .ok (raw, len)) (hil : xm_il raw = 0 ∨ len = xm_il raw) (hk : xm_lk o pc ini rt raw (.lookupswitch d ps) = true) (kk : xm_W p l e R s m args below meth c Q nL D g α base t0 (Op.lookupswitch.offset ps.toList d x.toInt).toNat L st S) : xm_W p l e R s m args below meth c Q nL D g α base t0 pc L (.inl x :: st) S := by
  intro H locs ls hR hS hl
  obtain ⟨hx, hb, -, hown, hts⟩ := C
  have k := kk H locs ls hR hS hl
  cases raw with
  | lookupswitch d' ps' =>
    have hk : (decide ((pc : Int) + d' = d) && (decide (0 ≤ d) && (decide (ps.toList = ps'.toList.map (fun f => (f.1, (pc : Int) + f.2))) && (ps.toList.all (fun t => decide (0 ≤ t.2)) && (ps'.toList.zip (ps'.toList.drop 1)).all (fun (a, next) => a.1 < next.1))))) = true := hk
    obtain ⟨e1, hk⟩ := Bool.and_eq_true_iff.mp hk
    obtain ⟨e2, hk⟩ := Bool.and_eq_true_iff.mp hk
    obtain ⟨e3, hk⟩ := Bool.and_eq_true_iff.mp hk
    obtain ⟨e4, e5⟩ := Bool.and_eq_true_iff.mp hk
    have e1 := of_decide_eq_true e1
    have e2 := of_decide_eq_true e2
    have e3 := of_decide_eq_true e3
    have hoff := xm_lko ps.toList ps'.toList pc d d' x.toInt e3 e1
    have hnn : ∀ l : List (Int × Int), (l.all (fun t => decide (0 ≤ t.2))) = true → 0 ≤ Op.lookupswitch.offset l d x.toInt := by
      intro l hl
      induction l with
      | nil => simpa [Op.lookupswitch.offset] using e2
      | cons q t ih =>
        simp only [List.all_cons, Bool.and_eq_true, decide_eq_true_eq] at hl
        simp only [Op.lookupswitch.offset]
        split
        · exact hl.1
        · exact ih hl.2
    exact lv_lookup hx hb hd e5 rfl (by rw [Int.toNat_of_nonneg (hnn _ e4)]; exact hoff.symm) k
  | _ => cases hk
end XMN
