/-! ===== the JDK's lists: beginnings and add ===== -/
theorem xj_sized {p : Program} {l : Launch} {e : Env} {R : Room} {s : State} {m : MethodId} {args : Array Value} {below : List Frame} {meth : Method} {c : Code} {H : Heap} {locs : List Loc} {cells slots : Nat} {Q : State → Prop} {f : JFrame} (kk : H.size ≤ s.heap.size + cells → W p l e R s m args below meth c H locs cells slots Q f) : W p l e R s m args below meth c H locs cells slots Q f := fun T hT X => kk (by rw [← hT]; exact X.heapSize) T hT X
theorem xj_runI {p : Program} {l : Launch} {e : Env} {R : Room} {s : State} {m : MethodId} {args : Array Value} {below : List Frame} {meth : Method} {c : Code} {H : Heap} {locs : List Loc} {cells slots : Nat} {cc : ByteArray} {pc : Nat} {ls : Array Slot} {rest : List Value} {y : MethodName} {bytes : ByteArray} {maxL : Nat} {rm : Room} {mc ms idx nL : Nat} {Pc : Array Value → State → Prop} {Qc : Array Value → State → Outcome → State → Prop} {free : Addr → Prop} {own : String} {b : Nat} (hx : p.tables.exec = Jvm.exec) (hb : c.code = cc) (hml : c.maxLocals = nL) (hown : s.vm.findClass own = some m.cls) (hts : ∀ w ∈ xm_tb, w.before args s = true) (hM : Met l y (Cond.code y bytes maxL none :: xm_tb) rm Pc Qc mc ms free) (hG : GoodIn xm_tb (Cond.code y bytes maxL none :: xm_tb)) (hlk : Cond.methodLink own idx y ∈ xm_tb) (hinst : Cond.instanceMethod y ∈ xm_tb) (hin : Cond.initialized y.cls ∈ xm_tb) (hyn : y.name = "<init>") (hd : y.cls ≠ "java/lang/invoke/MethodHandle" ∧ y.cls ≠ "java/lang/invoke/VarHandle" ∧ (parseMethodDescriptor y.desc).map (fun d => d.parameters.length) = some 0) (hrc : rm.cells = mc) (hrs : rm.slots = ms) (hR : rm.frames + 1 ≤ R.frames ∧ 8 + (maxL + 11) + rm.locals ≤ R.locals) (hbl : FrameBlind Pc) (hpc : ∀ U : State, U.heap = H → s.WarmedH U.vm → Pc (Value.ref b :: []).toArray U) (hsz : ls.size = nL) (hrest : (rest.map fun v => v.category).sum ≤ 8) (hdg : decode cc pc = .ok (.invokespecial idx, 3)) (hf : cells + mc ≤ R.cells ∧ slots + ms ≤ R.slots) : va_Run p l e R s m args below meth c H locs cells slots mc ms (F0 m pc ls (.ref b :: rest)) rest (Qc (Value.ref b :: []).toArray) free :=
  va_runI (As := []) ⟨hx, hb, hml, hown, hts⟩ hM ⟨callB_of 0 hts hG rfl hrc hrs (hts _ hin) (hts _ hlk) hd hR, hyn, hts _ hinst⟩ ⟨hbl, hpc⟩ rfl rfl hsz rfl (lv_room hrest) hdg hf
theorem xj_notA1 {a y sz : Nat} {e1 : va_E} (h1 : y ≠ a) (h3 : y < sz) : ¬ va_A [(a, e1)] sz y := by
  intro h
  rcases h with ⟨k, e, hk⟩ | h
  · match k, hk with
    | 0, hk => exact h1 (congrArg Prod.fst (Option.some.inj hk)).symm
    | k + 1, hk => simp at hk
  · omega
theorem xj_A1 {a sz base : Nat} {e1 : va_E} (h1 : base ≤ a) (h2 : base ≤ sz) : ∀ q, va_A [(a, e1)] sz q → base ≤ q := by
  intro q h
  rcases h with ⟨k, e, hk⟩ | h
  · match k, hk with
    | 0, hk => have e9 : a = q := congrArg Prod.fst (Option.some.inj hk); omega
    | k + 1, hk => simp at hk
  · omega
set_option maxHeartbeats 4000000 in
set_option maxRecDepth 100000 in
theorem xj_aci (l : Launch) (a : Nat) : Met l jy_aci jw_aci { frames := 1, cells := 0, slots := 0, locals := 12 } (va_Pc [.ref a] (fun _ => True)) (xj_Q none) 0 0 (fun _ => False) := by
  refine Met.ofW (cc := jb_aci) (maxL := 1) (ret := none) (by decide) rfl ?_
  intro p e s m args below meth c s₁ B hml hv
  obtain ⟨rfl, -⟩ := hv
  have hx := B.exec
  have hb := B.bytes
  have hr := B.returns
  have hts0 := atoms_spec (ws := jw_aci) B.pre
  have hts : ∀ w ∈ xm_tb, w.before _ s = true := fun w h => hts0 w (List.mem_cons_of_mem _ h)
  have hown := findClass_of_methodNamed B.named
  have hlocks := B.notSynchronized
  have hl := lv_entry ([.ref a]) (n := 1) (Nat.le_of_ble_eq_true rfl)
  rw [lg_entry_eq]
  generalize (lg_sl ([.ref a]) ++ List.replicate (1 - (lg_sl ([.ref a])).length) Slot.unset).toArray = ls at hl ⊢
  have hl : lv_has ls 1 [(0, .ref a)] := hl
  refine lv_aload_n hx hb jd_aci_0 rfl (lv_at hl 0 rfl) ?_
  refine W.objInit hx hb hown (hts _ jm_obi) (hts _ jo_inst) (hts _ jo_code) rfl (by rw [hml]; exact hl.1) rfl jd_aci_1 (Nat.le_of_ble_eq_true rfl) (Nat.le_of_ble_eq_true rfl) ?_
  refine W.eq (g2 := F0 m 4 ls []) rfl ?_
  exact W.vret hx hb hr (fun t ht _ => ⟨rfl, ht⟩) (fun q h => by cases h) jd_aci_4
set_option maxHeartbeats 4000000 in
set_option maxRecDepth 100000 in
theorem xj_ali (l : Launch) (D : va_G) (g : xm_G) (a : Nat) (ed : Value) (n mo : Int32) (sz : Nat) : Met l jy_ali jw_ali { frames := 2, cells := 0, slots := 0, locals := 32 } (va_Pc [.ref a] (fun U => va_K D xm_cl (xm_tys g) U ∧ va_P D xm_cl [(a, .inr (12, [ed, .int n, .int mo]))] U.heap ∧ va_D (fun _ => True) [(a, .inr (12, [ed, .int n, .int mo]))] ∧ U.heap.size = sz)) (xj_QW D none [(a, .inr (12, [ed, .int n, .int 0]))] (va_A [(a, .inr (12, [ed, .int n, .int mo]))] sz)) 0 0 (va_A [(a, .inr (12, [ed, .int n, .int mo]))] sz) := by
  refine Met.ofW (cc := jb_ali) (maxL := 1) (ret := none) (by decide) rfl ?_
  intro p e s m args below meth c s₁ B hml hv
  obtain ⟨rfl, hK, hP, hD0, hsz⟩ := hv
  have hx := B.exec
  have hb := B.bytes
  have hr := B.returns
  have hts0 := atoms_spec (ws := jw_ali) B.pre
  have hts : ∀ w ∈ xm_tb, w.before _ s = true := fun w h => hts0 w (List.mem_cons_of_mem _ h)
  have hown := findClass_of_methodNamed B.named
  have hlocks := B.notSynchronized
  subst hsz
  have hD := hD0.self (sz := s.heap.size)
  generalize hAe : va_A [(a, .inr (12, [ed, .int n, .int mo]))] s.heap.size = A at hD ⊢
  have hA : ∀ q : Nat, s.heap.size ≤ q → A q := fun q h => by rw [← hAe]; exact Or.inr h
  have hS : va_S A s.heap s.heap [] := va_S.rf
  have hP : va_P D xm_cl [(a, .inr (12, [ed, .int n, .int mo]))] s.heap := hP
  have hl := lv_entry ([.ref a]) (n := 1) (Nat.le_of_ble_eq_true rfl)
  rw [lg_entry_eq]
  generalize (lg_sl ([.ref a]) ++ List.replicate (1 - (lg_sl ([.ref a])).length) Slot.unset).toArray = ls at hl ⊢
  have hl : lv_has ls 1 [(0, .ref a)] := hl
  refine lv_aload_n hx hb jd_ali_0 rfl (lv_at hl 0 rfl) ?_
  refine xm_goon (xj_runI (rest := []) (b := a) hx hb hml hown hts (xj_aci l a) jg_aci jm_aci ji_aci jn_abc rfl jp_aci rfl rfl ⟨Nat.le_of_ble_eq_true rfl, Nat.le_of_ble_eq_true rfl⟩ (fun _ _ _ _ h => h) (fun U _ _ => ⟨rfl, trivial⟩) hl.1 (Nat.zero_le _) jd_ali_1 ⟨Nat.zero_le _, Nat.zero_le _⟩) (fun v9 st₀ t L9 h9 hal9 hL9 hq9 => ?_)
  obtain ⟨hv9, hh9⟩ := hq9
  cases hv9
  have hL0 : L9 = [] := by cases L9 with | nil => rfl | cons q t => exact absurd (hL9 q List.mem_cons_self) id
  subst hL0
  rw [hh9, h9]
  refine W.eq (g2 := F0 m 4 ls []) rfl ?_
  refine lv_aload_n hx hb jd_ali_4 rfl (lv_at hl 0 rfl) ?_
  refine lv_iconst (v := 0) hx hb jd_ali_5 (by decide) ?_
  refine xj_put (v := .int 0) hx hb hts hown hK hP hD hS 0 rfl 2 (by decide) jf_am (fun x h => h) xj_f2 (xj_n2 _).1 (xj_n2 _).2 (Nat.le_of_ble_eq_true rfl) jd_ali_6 (fun H locs hP hD hS => ?_)
  have hP : va_P D xm_cl [(a, .inr (12, [ed, .int n, .int 0]))] H := hP
  have hD : va_D A [(a, .inr (12, [ed, .int n, .int 0]))] := hD
  exact W.vret hx hb hr (fun t ht hW => ⟨rfl, by rw [ht]; exact hP, hD, hS.F ht⟩) hS.2.2 jd_ali_9
set_option maxHeartbeats 4000000 in
set_option maxRecDepth 100000 in
theorem xj_ini (l : Launch) (D : va_G) (g : xm_G) (a : Nat) (ed : Value) (n mo : Int32) (sz base : Nat) (hba : base ≤ a) (hbs : base ≤ sz) : Met l jy_ini jw_ini { frames := 3, cells := 0, slots := 0, locals := 52 } (va_Pc [.ref a] (fun U => va_K D xm_cl (xm_tys g) U ∧ va_P D xm_cl [(a, .inr (12, [ed, .int n, .int mo]))] U.heap ∧ va_D (fun _ => True) [(a, .inr (12, [ed, .int n, .int mo]))] ∧ U.heap.size = sz ∧ va_Z "java/util/ArrayList" "DEFAULTCAPACITY_EMPTY_ELEMENTDATA" "[Ljava/lang/Object;" (.ref g.2.2.2.2) (fun q => base ≤ q) U U.heap)) (xj_QW D none [(a, .inr (12, [.ref g.2.2.2.2, .int n, .int 0]))] (va_A [(a, .inr (12, [ed, .int n, .int mo]))] sz)) 0 0 (va_A [(a, .inr (12, [ed, .int n, .int mo]))] sz) := by
  refine Met.ofW (cc := jb_ini) (maxL := 1) (ret := none) (by decide) rfl ?_
  intro p e s m args below meth c s₁ B hml hv
  obtain ⟨rfl, hK, hP, hD0, hsz, hZ⟩ := hv
  have hx := B.exec
  have hb := B.bytes
  have hr := B.returns
  have hts0 := atoms_spec (ws := jw_ini) B.pre
  have hts : ∀ w ∈ xm_tb, w.before _ s = true := fun w h => hts0 w (List.mem_cons_of_mem _ h)
  have hown := findClass_of_methodNamed B.named
  have hlocks := B.notSynchronized
  subst hsz
  have hD := hD0.self (sz := s.heap.size)
  generalize hAe : va_A [(a, .inr (12, [ed, .int n, .int mo]))] s.heap.size = A at hD ⊢
  have hA : ∀ q : Nat, s.heap.size ≤ q → A q := fun q h => by rw [← hAe]; exact Or.inr h
  have hS : va_S A s.heap s.heap [] := va_S.rf
  have hP : va_P D xm_cl [(a, .inr (12, [ed, .int n, .int mo]))] s.heap := hP
  have hl := lv_entry ([.ref a]) (n := 1) (Nat.le_of_ble_eq_true rfl)
  rw [lg_entry_eq]
  generalize (lg_sl ([.ref a]) ++ List.replicate (1 - (lg_sl ([.ref a])).length) Slot.unset).toArray = ls at hl ⊢
  have hl : lv_has ls 1 [(0, .ref a)] := hl
  have hZ2 := hZ.narrow (B := A) (by rw [← hAe]; exact xj_A1 hba hbs)
  refine lv_aload_n hx hb jd_ini_0 rfl (lv_at hl 0 rfl) ?_
  refine xm_goon (xj_runI (rest := []) (b := a) hx hb hml hown hts (xj_ali l D g a ed n mo s.heap.size) jg_ali jm_ali ji_ali jn_abl rfl jp_ali rfl rfl ⟨Nat.le_of_ble_eq_true rfl, Nat.le_of_ble_eq_true rfl⟩ (fun a U f mk h => ⟨h.1, va_K.moved (u := U) (U := U.calling f mk a) (Vm.Alike.refl U.vm) h.2.1, h.2.2⟩) (fun U hU hW => ⟨rfl, va_K.moved hW.alike hK, by rw [hU]; exact hP, hD0, by rw [hU]⟩) hl.1 (Nat.zero_le _) jd_ini_1 ⟨Nat.zero_le _, Nat.zero_le _⟩) (fun v9 st₀ t L9 h9 hal9 hL9 hq9 => ?_)
  obtain ⟨hv9, hP9, hD9, hF9⟩ := hq9
  cases hv9
  rw [hAe] at hD9 hF9 hL9
  have hS9 : va_S A s.heap t.heap ([] ++ L9) := ⟨by rw [← h9]; exact hF9.1, fun q q1 q2 => by rw [← h9] at q1 ⊢; exact hF9.2 q q1 q2, fun q hq => hL9 q (by simpa using hq)⟩
  refine W.eq (g2 := F0 m 4 ls []) rfl ?_
  refine lv_aload_n hx hb jd_ini_4 rfl (lv_at hl 0 rfl) ?_
  refine va_gets hx hb hZ2 hS9 hown (hts _ jf_de) (fun _ h => h) jd_ini_5 ?_
  refine xj_put (v := .ref g.2.2.2.2) hx hb hts hown hK hP9 hD9 hS9 0 rfl 0 (by decide) jf_ed (xj_same hts 0 (by decide)) xj_f0 (xj_n0 _ (Or.inr ⟨_, rfl⟩)).1 (xj_n0 _ (Or.inr ⟨_, rfl⟩)).2 (Nat.le_of_ble_eq_true rfl) jd_ini_8 (fun H locs hP hD hS => ?_)
  have hP : va_P D xm_cl [(a, .inr (12, [.ref g.2.2.2.2, .int n, .int 0]))] H := hP
  have hD : va_D A [(a, .inr (12, [.ref g.2.2.2.2, .int n, .int 0]))] := hD
  exact W.vret hx hb hr (fun t ht hW => ⟨rfl, by rw [ht]; exact hP, hD, hS.F ht⟩) hS.2.2 jd_ini_11
set_option maxHeartbeats 4000000 in
set_option maxRecDepth 100000 in
theorem xj_nln (l : Launch) (k : Nat) (h2 : 2 ≤ k) (hk : k ≤ 100000) : Met l jy_nln jw_nln { frames := 1, cells := 0, slots := 0, locals := 40 } (va_Pc [.int (nI k), .int (nI 1), .int (nI (k / 2))] (fun _ => True)) (xj_Q (some (.int (nI (k + k / 2))))) 0 0 (fun _ => False) := by
  refine Met.ofW (cc := jb_nln) (maxL := 4) (ret := (some .int)) (by decide) rfl ?_
  intro p e s m args below meth c s₁ B hml hv
  obtain ⟨rfl, -⟩ := hv
  have hx := B.exec
  have hb := B.bytes
  have hr := B.returns
  have hts0 := atoms_spec (ws := jw_nln) B.pre
  have hts : ∀ w ∈ xm_tb, w.before _ s = true := fun w h => hts0 w (List.mem_cons_of_mem _ h)
  have hown := findClass_of_methodNamed B.named
  have hlocks := B.notSynchronized
  have hl := lv_entry ([.int (nI k), .int (nI 1), .int (nI (k / 2))]) (n := 4) (Nat.le_of_ble_eq_true rfl)
  rw [lg_entry_eq]
  generalize (lg_sl ([.int (nI k), .int (nI 1), .int (nI (k / 2))]) ++ List.replicate (4 - (lg_sl ([.int (nI k), .int (nI 1), .int (nI (k / 2))])).length) Slot.unset).toArray = ls at hl ⊢
  have hl : lv_has ls 4 [(0, .int (nI k)), (1, .int (nI 1)), (2, .int (nI (k / 2)))] := hl
  refine lv_iload_n hx hb jd_nln_0 rfl (lv_at hl 0 rfl) ?_
  refine lv_iload_n hx hb jd_nln_1 rfl (lv_at hl 1 rfl) ?_
  refine lv_iload_n hx hb jd_nln_2 rfl (lv_at hl 2 rfl) ?_
  refine va_mmax hx hb (by rw [hml]; exact hl.1.symm) hown (hts _ jm_mxs) (hts _ jzs_max) (hts _ jn_mat) (hts _ jz_max) (Nat.le_of_ble_eq_true rfl) (Nat.le_of_ble_eq_true rfl) (Nat.zero_le _) (Nat.zero_le _) jd_nln_3 ?_
  have em : (if nI 1 < nI (k / 2) then nI (k / 2) else nI 1) = nI (k / 2) := by
    by_cases c1 : 1 < k / 2
    · rw [if_pos (nI_lt c1 (by omega))]
    · rw [if_neg (nI_nlt (by omega) (by decide))]
      rw [show k / 2 = 1 by omega]
  rw [em]
  refine lv_iadd hx hb jd_nln_6 ?_
  rw [nI_add]
  refine lv_istore_n (lv' := [(3, .int (nI (k + k / 2))), (0, .int (nI k)), (1, .int (nI 1)), (2, .int (nI (k / 2)))]) hx hb jd_nln_7 rfl hl (by decide) rfl (fun ls hl => ?_)
  refine lv_iconst (v := 0) hx hb jd_nln_8 (by decide) ?_
  refine lv_iload_n hx hb jd_nln_9 rfl (lv_at hl 0 rfl) ?_
  refine lv_icmp_ge (tgt := 21) hx hb jd_nln_10 (by decide) (fun zz => absurd zz (nI_nle (by omega) (by omega))) (fun _ => ?_)
  refine lv_iload_n hx hb jd_nln_13 rfl (lv_at hl 0 rfl) ?_
  refine lv_ldc hx hb hown (hts _ jk_c) jd_nln_14 ?_
  refine lv_icmp_gt (tgt := 21) hx hb jd_nln_16 (by decide) (fun zz => absurd zz (show ¬ nI 2147483639 < nI (k + k / 2) from nI_nlt (by omega) (by decide))) (fun _ => ?_)
  refine lv_iload_n hx hb jd_nln_19 rfl (lv_at hl 0 rfl) ?_
  exact W.iret hx hb hr (fun t ht _ => ⟨rfl, ht⟩) (fun q h => by cases h) jd_nln_20
