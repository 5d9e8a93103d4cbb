/-! ===== the JDK's lists: writing members ===== -/
abbrev xj_QW (D : va_G) (v : Option Value) (ws : va_W) (A : Nat → Prop) : Array Value → State → Outcome → State → Prop := fun _ st oc t => oc = .returned v ∧ va_P D xm_cl ws t.heap ∧ va_D A ws ∧ va_F A st t
abbrev xj_ob : String := "java/lang/Object"
theorem xj_any_moved {E : String} {s U : State} {H : Heap} {y : Nat} (hvm : s.vm.Alike U.vm) (h : va_Any E s H y) : va_Any E U H y := by
  obtain ⟨cell, g1, g2, ⟨kC, hkC⟩, hasg⟩ := h
  obtain ⟨k', hk', -⟩ := hvm.2.2 _ _ hkC
  refine ⟨cell, g1, g2, ⟨k', hk'⟩, fun comp hc => ?_⟩
  rw [hvm.findClass] at hc
  rw [hvm.assignable]
  exact hasg comp hc
theorem xj_any_S {E : String} {s : State} {A : Nat → Prop} {H : Heap} {locs : List Loc} {y : Nat} (h : va_Any E s s.heap y) (hy : ¬ A y) (hS : va_S A s.heap H locs) : va_Any E s H y := by
  obtain ⟨cell, g1, g2⟩ := h
  exact ⟨cell, by rw [hS.2.1 y (Array.getElem?_eq_some_iff.mp g1).1 hy]; exact g1, g2⟩
theorem xj_any_lt {E : String} {s : State} {H : Heap} {y : Nat} (h : va_Any E s H y) : y < H.size := by
  obtain ⟨cell, g1, -⟩ := h
  exact (Array.getElem?_eq_some_iff.mp g1).1
/-- not one of the two cells of a list, and there already -/
theorem xj_notA {a b y sz : Nat} {e1 e2 : va_E} (h1 : y ≠ a) (h2 : y ≠ b) (h3 : y < sz) : ¬ va_A [(a, e1), (b, e2)] sz y := by
  intro h
  rcases h with ⟨k, e, hk⟩ | h
  · match k, hk with
    | 0, hk => exact h1 (congrArg Prod.fst (Option.some.inj hk)).symm
    | 1, hk => exact h2 (congrArg Prod.fst (Option.some.inj hk)).symm
    | k + 2, hk => simp at hk
  · omega
set_option maxHeartbeats 4000000 in
set_option maxRecDepth 100000 in
theorem xj_setm (l : Launch) (D : va_G) (g : xm_G) (a b : Nat) (n mo : Int32) (k : Nat) (f : Nat → Option Nat) (i : Int32) (hi : vp_in i k) (v : Nat) (hv : f i.toNatClampNeg = some v) (h0 : ¬ i < 0) (h1 : i < n) (x sz : Nat) (hxa : x ≠ a) (hxb : x ≠ b) : Met l jy_set jw_set { frames := 2, cells := 0, slots := 0, locals := 43 } (va_Pc [.ref a, .int i, .ref x] (fun U => va_K D xm_cl (xm_tys g) U ∧ va_P D xm_cl [(a, .inr (12, [.ref b, .int n, .int mo])), (b, .inl (g.2.2.2.1, k, .inr (.inr (.inr (.inr f)))))] U.heap ∧ va_D (fun _ => True) [(a, .inr (12, [.ref b, .int n, .int mo])), (b, .inl (g.2.2.2.1, k, .inr (.inr (.inr (.inr f)))))] ∧ U.heap.size = sz ∧ va_Any xj_ob U U.heap x)) (xj_QW D (some (.ref v)) [(a, .inr (12, [.ref b, .int n, .int mo])), (b, .inl (g.2.2.2.1, k, .inr (.inr (.inr (.inr (va_up f i.toNatClampNeg (some x)))))))] (va_A [(a, .inr (12, [.ref b, .int n, .int mo])), (b, .inl (g.2.2.2.1, k, .inr (.inr (.inr (.inr f)))))] sz)) 0 0 (va_A [(a, .inr (12, [.ref b, .int n, .int mo])), (b, .inl (g.2.2.2.1, k, .inr (.inr (.inr (.inr f)))))] sz) := by
  refine Met.ofW (cc := jb_set) (maxL := 4) (ret := (some (.object "java/lang/Object"))) (by decide) rfl ?_
  intro p e s m args below meth c s₁ B hml hv
  obtain ⟨rfl, hK, hP, hD0, hsz, hany⟩ := hv
  have hx := B.exec
  have hb := B.bytes
  have hr := B.returns
  have hts0 := atoms_spec (ws := jw_set) B.pre
  have hts : ∀ w ∈ xm_tb, w.before _ s = true := fun w h => hts0 w (List.mem_cons_of_mem _ h)
  have hown := findClass_of_methodNamed B.named
  have hlocks := B.notSynchronized
  subst hsz
  have hD := hD0.self (sz := s.heap.size)
  generalize hAe : va_A [(a, .inr (12, [.ref b, .int n, .int mo])), (b, .inl (g.2.2.2.1, k, .inr (.inr (.inr (.inr f)))))] s.heap.size = A at hD ⊢
  have hA : ∀ q : Nat, s.heap.size ≤ q → A q := fun q h => by rw [← hAe]; exact Or.inr h
  have hS : va_S A s.heap s.heap [] := va_S.rf
  have hP : va_P D xm_cl [(a, .inr (12, [.ref b, .int n, .int mo])), (b, .inl (g.2.2.2.1, k, .inr (.inr (.inr (.inr f)))))] s.heap := hP
  have hl := lv_entry ([.ref a, .int i, .ref x]) (n := 4) (Nat.le_of_ble_eq_true rfl)
  rw [lg_entry_eq]
  generalize (lg_sl ([.ref a, .int i, .ref x]) ++ List.replicate (4 - (lg_sl ([.ref a, .int i, .ref x])).length) Slot.unset).toArray = ls at hl ⊢
  have hl : lv_has ls 4 [(0, .ref a), (1, .int i), (2, .ref x)] := hl
  refine lv_iload_n hx hb jd_set_0 rfl (lv_at hl 1 rfl) ?_
  refine lv_aload_n hx hb jd_set_1 rfl (lv_at hl 0 rfl) ?_
  refine xj_get hx hb hts hown hK hP 0 rfl 1 (by decide) jf_sz rfl jd_set_2 ?_
  refine xj_read (xj_runS (As := [.int i, .int n]) (rest := []) hx hb hml hown hts (xj_oci l i n h0 h1) jg_oci jm_oci js_oci jn_obj jp_oci rfl rfl ⟨Nat.le_of_ble_eq_true rfl, Nat.le_of_ble_eq_true rfl⟩ (fun _ _ _ _ h => h) (fun U _ _ => ⟨rfl, trivial⟩) hl.1 (Nat.zero_le _) jd_set_5 ⟨Nat.zero_le _, Nat.zero_le _⟩) ?_
  refine lv_pop hx hb jd_set_8 rfl ?_
  refine lv_aload_n hx hb jd_set_9 rfl (lv_at hl 0 rfl) ?_
  refine lv_iload_n hx hb jd_set_10 rfl (lv_at hl 1 rfl) ?_
  refine xj_read (xj_runV (As := [.int i]) (rest := []) (b := a) hx hb hml hown hts (xj_eld l D g a b n mo k f i hi v hv) jg_eld jm_eld ji_eld jv_eld rfl jp_eld rfl rfl ⟨Nat.le_of_ble_eq_true rfl, Nat.le_of_ble_eq_true rfl⟩ (fun a U f mk h => ⟨h.1, va_K.moved (u := U) (U := U.calling f mk a) (Vm.Alike.refl U.vm) h.2.1, h.2.2⟩) (va_recv hK hP (ci := 12) (q := (xm_cn 12, (fun k => xm_fn 12 k), xm_nf 12)) (xm_cl_at 12 (by decide)) (q0 := 0) rfl) (fun U hU hW => ⟨rfl, va_K.moved hW.alike hK, by rw [hU]; exact hP⟩) hl.1 (Nat.zero_le _) jd_set_11 ⟨Nat.zero_le _, Nat.zero_le _⟩) ?_
  refine lv_astore_n (lv' := [(3, .ref v), (0, .ref a), (1, .int i), (2, .ref x)]) hx hb jd_set_14 rfl hl (by decide) rfl (fun ls hl => ?_)
  refine lv_aload_n hx hb jd_set_15 rfl (lv_at hl 1 rfl) ?_
  refine xj_get hx hb hts hown hK hP 0 rfl 0 (by decide) jf_ed rfl jd_set_16 ?_
  refine lv_iload_n hx hb jd_set_19 rfl (lv_at hl 2 rfl) ?_
  refine lv_aload_n hx hb jd_set_20 rfl (lv_at hl 3 rfl) ?_
  refine va_astqM hx hb hK hP hD hS 1 3 rfl rfl hany hi jd_set_21 (fun H locs hP hD hS => ?_)
  have hP : va_P D xm_cl [(a, .inr (12, [.ref b, .int n, .int mo])), (b, .inl (g.2.2.2.1, k, .inr (.inr (.inr (.inr (va_up f i.toNatClampNeg (some x)))))))] H := hP
  have hD : va_D A [(a, .inr (12, [.ref b, .int n, .int mo])), (b, .inl (g.2.2.2.1, k, .inr (.inr (.inr (.inr (va_up f i.toNatClampNeg (some x)))))))] := hD
  refine lv_aload_n hx hb jd_set_22 rfl (lv_at hl 0 rfl) ?_
  exact W.aret hx hb hr (Or.inl ⟨_, rfl⟩) (Or.inr ⟨v, rfl⟩) (fun t ht hW => ⟨rfl, by rw [ht]; exact hP, hD, hS.F ht⟩) hS.2.2 jd_set_23
theorem xj_n0 (v : Value) (h : v = .null ∨ ∃ q, v = .ref q) : narrow (xm_fty 12 0) v = v ∧ fits (xm_fty 12 0) v = true := by
  have e : xm_fty 12 0 = .array (.object "java/lang/Object") := by decide +kernel
  rw [e]
  rcases h with rfl | ⟨q, rfl⟩ <;> exact ⟨rfl, rfl⟩
theorem xj_n1 (x : Int32) : narrow (xm_fty 12 1) (.int x) = .int x ∧ fits (xm_fty 12 1) (.int x) = true := by
  have e : xm_fty 12 1 = .int := by decide +kernel
  rw [e]
  exact ⟨rfl, rfl⟩
theorem xj_n2 (x : Int32) : narrow (xm_fty 12 2) (.int x) = .int x ∧ fits (xm_fty 12 2) (.int x) = true := by
  have e : xm_fty 12 2 = .int := by decide +kernel
  rw [e]
  exact ⟨rfl, rfl⟩
theorem xj_f0 : (xm_fn 12 0).2.2.2 = false := by decide +kernel
theorem xj_f1 : (xm_fn 12 1).2.2.2 = false := by decide +kernel
theorem xj_f2 : (xm_fn 12 2).2.2.2 = false := by decide +kernel
theorem xj_cpy0 (f : Nat → Option Nat) (sp dp : Nat) : va_cpy f f sp dp 0 = f := by
  funext q
  exact pk_cpy_out (by omega)
set_option maxHeartbeats 4000000 in
set_option maxRecDepth 100000 in
theorem xj_frm (l : Launch) (D : va_G) (g : xm_G) (a b : Nat) (mo : Int32) (k : Nat) (f : Nat → Option Nat) (z j sz : Nat) (hj : j < z) (hz : z ≤ k) (hk : k ≤ 150000) : Met l jy_frm jw_frm { frames := 1, cells := 0, slots := 0, locals := 40 } (va_Pc [.ref a, .ref b, .int (nI j)] (fun U => va_K D xm_cl (xm_tys g) U ∧ va_P D xm_cl [(a, .inr (12, [.ref b, .int (nI z), .int mo])), (b, .inl (g.2.2.2.1, k, .inr (.inr (.inr (.inr f)))))] U.heap ∧ va_D (fun _ => True) [(a, .inr (12, [.ref b, .int (nI z), .int mo])), (b, .inl (g.2.2.2.1, k, .inr (.inr (.inr (.inr f)))))] ∧ U.heap.size = sz ∧ (∀ q y, q < z → f q = some y → va_Any xj_ob U U.heap y ∧ y ≠ a ∧ y ≠ b))) (xj_QW D none [(a, .inr (12, [.ref b, .int (nI (z - 1)), .int (mo + 1)])), (b, .inl (g.2.2.2.1, k, .inr (.inr (.inr (.inr (va_up (va_cpy f f (j + 1) j (z - 1 - j)) (z - 1) none))))))] (va_A [(a, .inr (12, [.ref b, .int (nI z), .int mo])), (b, .inl (g.2.2.2.1, k, .inr (.inr (.inr (.inr f)))))] sz)) 0 0 (va_A [(a, .inr (12, [.ref b, .int (nI z), .int mo])), (b, .inl (g.2.2.2.1, k, .inr (.inr (.inr (.inr f)))))] sz) := by
  refine Met.ofW (cc := jb_frm) (maxL := 4) (ret := none) (by decide) rfl ?_
  intro p e s m args below meth c s₁ B hml hv
  obtain ⟨rfl, hK, hP, hD0, hsz, hel⟩ := hv
  have hx := B.exec
  have hb := B.bytes
  have hr := B.returns
  have hts0 := atoms_spec (ws := jw_frm) B.pre
  have hts : ∀ w ∈ xm_tb, w.before _ s = true := fun w h => hts0 w (List.mem_cons_of_mem _ h)
  have hown := findClass_of_methodNamed B.named
  have hlocks := B.notSynchronized
  subst hsz
  have hD := hD0.self (sz := s.heap.size)
  generalize hAe : va_A [(a, .inr (12, [.ref b, .int (nI z), .int mo])), (b, .inl (g.2.2.2.1, k, .inr (.inr (.inr (.inr f)))))] s.heap.size = A at hD ⊢
  have hA : ∀ q : Nat, s.heap.size ≤ q → A q := fun q h => by rw [← hAe]; exact Or.inr h
  have hS : va_S A s.heap s.heap [] := va_S.rf
  have hP : va_P D xm_cl [(a, .inr (12, [.ref b, .int (nI z), .int mo])), (b, .inl (g.2.2.2.1, k, .inr (.inr (.inr (.inr f)))))] s.heap := hP
  have hl := lv_entry ([.ref a, .ref b, .int (nI j)]) (n := 4) (Nat.le_of_ble_eq_true rfl)
  rw [lg_entry_eq]
  generalize (lg_sl ([.ref a, .ref b, .int (nI j)]) ++ List.replicate (4 - (lg_sl ([.ref a, .ref b, .int (nI j)])).length) Slot.unset).toArray = ls at hl ⊢
  have hl : lv_has ls 4 [(0, .ref a), (1, .ref b), (2, .int (nI j))] := hl
  have hel2 : ∀ (H : Heap) (locs : List Loc), va_S A s.heap H locs → ∀ q y, q < z → f q = some y → va_Any xj_ob s H y := fun H locs hS q y h1 h2 => xj_any_S (hel q y h1 h2).1 (by rw [← hAe]; exact xj_notA (hel q y h1 h2).2.1 (hel q y h1 h2).2.2 (xj_any_lt (hel q y h1 h2).1)) hS
  refine lv_aload_n hx hb jd_frm_0 rfl (lv_at hl 0 rfl) ?_
  refine lv_dup hx hb jd_frm_1 rfl ?_
  refine xj_get hx hb hts hown hK hP 0 rfl 2 (by decide) jf_mc rfl jd_frm_2 ?_
  refine lv_iconst (v := 1) hx hb jd_frm_5 (by decide) ?_
  refine lv_iadd hx hb jd_frm_6 ?_
  refine xj_put (v := .int (mo + 1)) hx hb hts hown hK hP hD hS 0 rfl 2 (by decide) jf_mc (xj_same hts 2 (by decide)) xj_f2 (xj_n2 _).1 (xj_n2 _).2 (Nat.le_of_ble_eq_true rfl) jd_frm_7 (fun H locs hP hD hS => ?_)
  have hP : va_P D xm_cl [(a, .inr (12, [.ref b, .int (nI z), .int (mo + 1)])), (b, .inl (g.2.2.2.1, k, .inr (.inr (.inr (.inr f)))))] H := hP
  have hD : va_D A [(a, .inr (12, [.ref b, .int (nI z), .int (mo + 1)])), (b, .inl (g.2.2.2.1, k, .inr (.inr (.inr (.inr f)))))] := hD
  refine lv_aload_n hx hb jd_frm_10 rfl (lv_at hl 0 rfl) ?_
  refine xj_get hx hb hts hown hK hP 0 rfl 1 (by decide) jf_sz rfl jd_frm_11 ?_
  refine lv_iconst (v := 1) hx hb jd_frm_14 (by decide) ?_
  refine lv_isub hx hb jd_frm_15 ?_
  have ez : nI z - 1 = nI (z - 1) := by have := nI_pred (z - 1); rw [show z - 1 + 1 = z by omega] at this; exact this
  rw [ez]
  refine lv_dup hx hb jd_frm_16 rfl ?_
  refine lv_istore_n (lv' := [(3, .int (nI (z - 1))), (0, .ref a), (1, .ref b), (2, .int (nI j))]) hx hb jd_frm_17 rfl hl (by decide) rfl (fun ls hl => ?_)
  refine lv_iload_n hx hb jd_frm_18 rfl (lv_at hl 3 rfl) ?_
  refine lv_icmp_le (tgt := 34) hx hb jd_frm_19 (by decide) (fun zz => ?_) (fun zz => ?_)
  · have hjz : z - 1 - j = 0 := by have := (nI_leI (a := z - 1) (b := j) (by omega) (by omega)).mp zz; omega
    rw [hjz, xj_cpy0]
    refine lv_aload_n hx hb jd_frm_34 rfl (lv_at hl 2 rfl) ?_
    refine lv_aload_n hx hb jd_frm_35 rfl (lv_at hl 1 rfl) ?_
    refine lv_iload_n hx hb jd_frm_36 rfl (lv_at hl 0 rfl) ?_
    refine lv_dup_x1 hx hb jd_frm_37 rfl rfl ?_
    refine xj_put (v := .int (nI (z - 1))) hx hb hts hown hK hP hD hS 0 rfl 1 (by decide) jf_sz (xj_same hts 1 (by decide)) xj_f1 (xj_n1 _).1 (xj_n1 _).2 (Nat.le_of_ble_eq_true rfl) jd_frm_38 (fun H locs hP hD hS => ?_)
    have hP : va_P D xm_cl [(a, .inr (12, [.ref b, .int (nI (z - 1)), .int (mo + 1)])), (b, .inl (g.2.2.2.1, k, .inr (.inr (.inr (.inr f)))))] H := hP
    have hD : va_D A [(a, .inr (12, [.ref b, .int (nI (z - 1)), .int (mo + 1)])), (b, .inl (g.2.2.2.1, k, .inr (.inr (.inr (.inr f)))))] := hD
    refine lv_null hx hb jd_frm_41 ?_
    refine va_astqN hx hb hK hP hD hS 1 3 rfl rfl (vp_in_nI (by omega) (by omega)) jd_frm_42 (fun H locs hP hD hS => ?_)
    rw [nI_clamp (by omega)] at hP hD
    have hP : va_P D xm_cl [(a, .inr (12, [.ref b, .int (nI (z - 1)), .int (mo + 1)])), (b, .inl (g.2.2.2.1, k, .inr (.inr (.inr (.inr (va_up f (z - 1) none))))))] H := hP
    have hD : va_D A [(a, .inr (12, [.ref b, .int (nI (z - 1)), .int (mo + 1)])), (b, .inl (g.2.2.2.1, k, .inr (.inr (.inr (.inr (va_up f (z - 1) none))))))] := hD
    exact W.vret hx hb hr (fun t ht hW => ⟨rfl, by rw [ht]; exact hP, hD, hS.F ht⟩) hS.2.2 jd_frm_43
  · refine lv_aload_n hx hb jd_frm_22 rfl (lv_at hl 2 rfl) ?_
    refine lv_iload_n hx hb jd_frm_23 rfl (lv_at hl 3 rfl) ?_
    refine lv_iconst (v := 1) hx hb jd_frm_24 (by decide) ?_
    refine lv_iadd hx hb jd_frm_25 ?_
    rw [nI_1]
    refine lv_aload_n hx hb jd_frm_26 rfl (lv_at hl 2 rfl) ?_
    refine lv_iload_n hx hb jd_frm_27 rfl (lv_at hl 3 rfl) ?_
    refine lv_iload_n hx hb jd_frm_28 rfl (lv_at hl 0 rfl) ?_
    refine lv_iload_n hx hb jd_frm_29 rfl (lv_at hl 3 rfl) ?_
    refine lv_isub hx hb jd_frm_30 ?_
    have hjz : j < z - 1 := Nat.not_le.mp fun h => zz (nI_le h (by omega))
    rw [pk_sub (by omega)]
    have e1 : (nI (j + 1)).toNatClampNeg = j + 1 := nI_clamp (by omega)
    have e2 : (nI j).toNatClampNeg = j := nI_clamp (by omega)
    have e3 : (nI (z - 1 - j)).toNatClampNeg = z - 1 - j := nI_clamp (by omega)
    refine va_copyM (rest := []) hx hb (by rw [hml]; exact hl.1.symm) hown (hts _ jm_ac1) (hts _ jt_nat) (hts _ jt_sta) (hts _ jn_sys) hK hP hD hS 1 1 3 3 rfl rfl rfl rfl (nI_pos (by omega)) (nI_pos (by omega)) (nI_pos (by omega)) (by rw [e1, e3]; omega) (by rw [e2, e3]; omega) (fun q hq y hy => hel2 _ _ hS (j + 1 + q) y (by rw [e3] at hq; omega) (by rw [e1] at hy; exact hy)) (Nat.le_of_ble_eq_true rfl) (Nat.le_of_ble_eq_true rfl) jd_frm_31 (fun H locs hP hD hS => ?_)
    rw [e1, e2, e3] at hP hD
    have hP : va_P D xm_cl [(a, .inr (12, [.ref b, .int (nI z), .int (mo + 1)])), (b, .inl (g.2.2.2.1, k, .inr (.inr (.inr (.inr (va_cpy f f (j + 1) j (z - 1 - j)))))))] H := hP
    have hD : va_D A [(a, .inr (12, [.ref b, .int (nI z), .int (mo + 1)])), (b, .inl (g.2.2.2.1, k, .inr (.inr (.inr (.inr (va_cpy f f (j + 1) j (z - 1 - j)))))))] := hD
    refine lv_aload_n hx hb jd_frm_34 rfl (lv_at hl 2 rfl) ?_
    refine lv_aload_n hx hb jd_frm_35 rfl (lv_at hl 1 rfl) ?_
    refine lv_iload_n hx hb jd_frm_36 rfl (lv_at hl 0 rfl) ?_
    refine lv_dup_x1 hx hb jd_frm_37 rfl rfl ?_
    refine xj_put (v := .int (nI (z - 1))) hx hb hts hown hK hP hD hS 0 rfl 1 (by decide) jf_sz (xj_same hts 1 (by decide)) xj_f1 (xj_n1 _).1 (xj_n1 _).2 (Nat.le_of_ble_eq_true rfl) jd_frm_38 (fun H locs hP hD hS => ?_)
    have hP : va_P D xm_cl [(a, .inr (12, [.ref b, .int (nI (z - 1)), .int (mo + 1)])), (b, .inl (g.2.2.2.1, k, .inr (.inr (.inr (.inr (va_cpy f f (j + 1) j (z - 1 - j)))))))] H := hP
    have hD : va_D A [(a, .inr (12, [.ref b, .int (nI (z - 1)), .int (mo + 1)])), (b, .inl (g.2.2.2.1, k, .inr (.inr (.inr (.inr (va_cpy f f (j + 1) j (z - 1 - j)))))))] := hD
    refine lv_null hx hb jd_frm_41 ?_
    refine va_astqN hx hb hK hP hD hS 1 3 rfl rfl (vp_in_nI (by omega) (by omega)) jd_frm_42 (fun H locs hP hD hS => ?_)
    rw [nI_clamp (by omega)] at hP hD
    have hP : va_P D xm_cl [(a, .inr (12, [.ref b, .int (nI (z - 1)), .int (mo + 1)])), (b, .inl (g.2.2.2.1, k, .inr (.inr (.inr (.inr (va_up (va_cpy f f (j + 1) j (z - 1 - j)) (z - 1) none))))))] H := hP
    have hD : va_D A [(a, .inr (12, [.ref b, .int (nI (z - 1)), .int (mo + 1)])), (b, .inl (g.2.2.2.1, k, .inr (.inr (.inr (.inr (va_up (va_cpy f f (j + 1) j (z - 1 - j)) (z - 1) none))))))] := hD
    exact W.vret hx hb hr (fun t ht hW => ⟨rfl, by rw [ht]; exact hP, hD, hS.F ht⟩) hS.2.2 jd_frm_43
set_option maxHeartbeats 4000000 in
set_option maxRecDepth 100000 in
theorem xj_remm (l : Launch) (D : va_G) (g : xm_G) (a b : Nat) (mo : Int32) (k : Nat) (f : Nat → Option Nat) (z j sz : Nat) (hj : j < z) (hz : z ≤ k) (hk : k ≤ 150000) (v : Nat) (hv : f j = some v) : Met l jy_rem jw_rem { frames := 3, cells := 0, slots := 0, locals := 80 } (va_Pc [.ref a, .int (nI j)] (fun U => va_K D xm_cl (xm_tys g) U ∧ va_P D xm_cl [(a, .inr (12, [.ref b, .int (nI z), .int mo])), (b, .inl (g.2.2.2.1, k, .inr (.inr (.inr (.inr f)))))] U.heap ∧ va_D (fun _ => True) [(a, .inr (12, [.ref b, .int (nI z), .int mo])), (b, .inl (g.2.2.2.1, k, .inr (.inr (.inr (.inr f)))))] ∧ U.heap.size = sz ∧ (∀ q y, q < z → f q = some y → va_Any xj_ob U U.heap y ∧ y ≠ a ∧ y ≠ b))) (xj_QW D (some (.ref v)) [(a, .inr (12, [.ref b, .int (nI (z - 1)), .int (mo + 1)])), (b, .inl (g.2.2.2.1, k, .inr (.inr (.inr (.inr (va_up (va_cpy f f (j + 1) j (z - 1 - j)) (z - 1) none))))))] (va_A [(a, .inr (12, [.ref b, .int (nI z), .int mo])), (b, .inl (g.2.2.2.1, k, .inr (.inr (.inr (.inr f)))))] sz)) 0 0 (va_A [(a, .inr (12, [.ref b, .int (nI z), .int mo])), (b, .inl (g.2.2.2.1, k, .inr (.inr (.inr (.inr f)))))] sz) := by
  refine Met.ofW (cc := jb_rem) (maxL := 4) (ret := (some (.object "java/lang/Object"))) (by decide) rfl ?_
  intro p e s m args below meth c s₁ B hml hv
  obtain ⟨rfl, hK, hP, hD0, hsz, hel⟩ := hv
  have hx := B.exec
  have hb := B.bytes
  have hr := B.returns
  have hts0 := atoms_spec (ws := jw_rem) B.pre
  have hts : ∀ w ∈ xm_tb, w.before _ s = true := fun w h => hts0 w (List.mem_cons_of_mem _ h)
  have hown := findClass_of_methodNamed B.named
  have hlocks := B.notSynchronized
  subst hsz
  have hD := hD0.self (sz := s.heap.size)
  generalize hAe : va_A [(a, .inr (12, [.ref b, .int (nI z), .int mo])), (b, .inl (g.2.2.2.1, k, .inr (.inr (.inr (.inr f)))))] s.heap.size = A at hD ⊢
  have hA : ∀ q : Nat, s.heap.size ≤ q → A q := fun q h => by rw [← hAe]; exact Or.inr h
  have hS : va_S A s.heap s.heap [] := va_S.rf
  have hP : va_P D xm_cl [(a, .inr (12, [.ref b, .int (nI z), .int mo])), (b, .inl (g.2.2.2.1, k, .inr (.inr (.inr (.inr f)))))] s.heap := hP
  have hl := lv_entry ([.ref a, .int (nI j)]) (n := 4) (Nat.le_of_ble_eq_true rfl)
  rw [lg_entry_eq]
  generalize (lg_sl ([.ref a, .int (nI j)]) ++ List.replicate (4 - (lg_sl ([.ref a, .int (nI j)])).length) Slot.unset).toArray = ls at hl ⊢
  have hl : lv_has ls 4 [(0, .ref a), (1, .int (nI j))] := hl
  have h0 : ¬ nI j < 0 := nI_pos (by omega)
  have h1 : nI j < nI z := nI_lt hj (by omega)
  have hi : vp_in (nI j) k := vp_in_nI (by omega) (by omega)
  refine lv_iload_n hx hb jd_rem_0 rfl (lv_at hl 1 rfl) ?_
  refine lv_aload_n hx hb jd_rem_1 rfl (lv_at hl 0 rfl) ?_
  refine xj_get hx hb hts hown hK hP 0 rfl 1 (by decide) jf_sz rfl jd_rem_2 ?_
  refine xj_read (xj_runS (As := [.int (nI j), .int (nI z)]) (rest := []) hx hb hml hown hts (xj_oci l (nI j) (nI z) h0 h1) jg_oci jm_oci js_oci jn_obj jp_oci rfl rfl ⟨Nat.le_of_ble_eq_true rfl, Nat.le_of_ble_eq_true rfl⟩ (fun _ _ _ _ h => h) (fun U _ _ => ⟨rfl, trivial⟩) hl.1 (Nat.zero_le _) jd_rem_5 ⟨Nat.zero_le _, Nat.zero_le _⟩) ?_
  refine lv_pop hx hb jd_rem_8 rfl ?_
  refine lv_aload_n hx hb jd_rem_9 rfl (lv_at hl 0 rfl) ?_
  refine xj_get hx hb hts hown hK hP 0 rfl 0 (by decide) jf_ed rfl jd_rem_10 ?_
  refine lv_astore_n (lv' := [(2, .ref b), (0, .ref a), (1, .int (nI j))]) hx hb jd_rem_13 rfl hl (by decide) rfl (fun ls hl => ?_)
  refine lv_aload_n hx hb jd_rem_14 rfl (lv_at hl 0 rfl) ?_
  refine lv_iload_n hx hb jd_rem_15 rfl (lv_at hl 2 rfl) ?_
  refine va_aldq hx hb hK hP 1 3 rfl rfl hi jd_rem_16 ?_
  rw [nI_clamp (by omega), hv]
  refine lv_astore_n (x := v) (lv' := [(3, .ref v), (2, .ref b), (0, .ref a), (1, .int (nI j))]) hx hb jd_rem_17 rfl hl (by decide) rfl (fun ls hl => ?_)
  refine lv_aload_n hx hb jd_rem_18 rfl (lv_at hl 2 rfl) ?_
  refine lv_aload_n hx hb jd_rem_19 rfl (lv_at hl 1 rfl) ?_
  refine lv_iload_n hx hb jd_rem_20 rfl (lv_at hl 3 rfl) ?_
  refine xm_goon (xj_runV (As := [.ref b, .int (nI j)]) (rest := []) (b := a) hx hb hml hown hts (xj_frm l D g a b mo k f z j s.heap.size hj hz hk) jg_frm jm_frm ji_frm jv_frm rfl jp_frm rfl rfl ⟨Nat.le_of_ble_eq_true rfl, Nat.le_of_ble_eq_true rfl⟩ (fun a U f mk h => ⟨h.1, va_K.moved (u := U) (U := U.calling f mk a) (Vm.Alike.refl U.vm) h.2.1, h.2.2⟩) (va_recv hK hP (ci := 12) (q := (xm_cn 12, (fun k => xm_fn 12 k), xm_nf 12)) (xm_cl_at 12 (by decide)) (q0 := 0) rfl) (fun U hU hW => ⟨rfl, va_K.moved hW.alike hK, by rw [hU]; exact hP, hD0, by rw [hU], fun q y h1 h2 => ⟨by rw [hU]; exact xj_any_moved hW.alike (hel q y h1 h2).1, (hel q y h1 h2).2⟩⟩) hl.1 (Nat.zero_le _) jd_rem_21 ⟨Nat.zero_le _, Nat.zero_le _⟩) (fun v9 st₀ t L9 h9 hal9 hL9 hq9 => ?_)
  obtain ⟨hv9, hP9, hD9, hF9⟩ := hq9
  cases hv9
  rw [hAe] at hD9 hF9 hL9
  refine lv_aload_n hx hb jd_rem_24 rfl (lv_at hl 0 rfl) ?_
  exact W.aret hx hb hr (Or.inl ⟨_, rfl⟩) (Or.inr ⟨v, rfl⟩) (fun t2 ht hW => ⟨rfl, by rw [ht]; exact hP9, hD9, by unfold va_F at hF9 ⊢; rw [ht, ← h9]; exact hF9⟩) (fun q hq => hL9 q (by simpa using hq)) jd_rem_25
