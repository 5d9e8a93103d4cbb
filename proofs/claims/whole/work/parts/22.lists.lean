/-! ===== the JDK's lists: fields and calls of theirs; reading members ===== -/
abbrev xj_Q (v : Option Value) : Array Value → State → Outcome → State → Prop := fun _ st oc t => oc = .returned v ∧ t.heap = st.heap
abbrev xj_r0 : Room := { frames := 0, cells := 0, slots := 0, locals := 0 }
theorem xj_same {args : Array Value} {s : State} (hts : ∀ w ∈ xm_tb, w.before args s = true) (k : Nat) (hk : k < 3) : ∀ x, s.fieldFound? (xm_fn 12 k).1 (xm_fn 12 k).2.1 (xm_fn 12 k).2.2.1 = some x → s.fieldFound? "java/util/ArrayList" (xm_fn 12 k).2.1 (xm_fn 12 k).2.2.1 = some x := by
  have h3 : k = 0 ∨ k = 1 ∨ k = 2 := by omega
  rcases h3 with rfl | rfl | rfl
  · exact fun x h => h
  · exact fun x h => h
  · exact fun x h => u_same (hts _ jx_same) x h
section XJ
variable {p : Program} {l : Launch} {e : Env} {R : Room} {s : State} {m : MethodId} {args : Array Value} {below : List Frame} {meth : Method} {c : Code} {H : Heap} {locs : List Loc} {cells slots : Nat} {Q : State → Prop} {cc : ByteArray} {pc : Nat} {ls : Array Slot} {rest : List Value} {D : va_G} {g : xm_G} {A : Nat → Prop} {a : Nat} {ws : va_W} {H0 : Heap}
theorem xj_get (hx : p.tables.exec = Jvm.exec) (hb : c.code = cc) (hts : ∀ w ∈ xm_tb, w.before args s = true) {own : String} (hown : s.vm.findClass own = some m.cls) (hK : va_K D xm_cl (xm_tys g) s) (hP : va_P D xm_cl ws H) (q0 : Nat) {fs : List Value} (he : ws[q0]? = some (a, .inr (12, fs))) (k : Nat) (hk : k < 3) {idx : Nat} (hl : Cond.fieldLink own idx "java/util/ArrayList" (xm_fn 12 k).2.1 (xm_fn 12 k).2.2.1 ∈ xm_tb) {v : Value} (hv : fs[k]? = some v) (hdg : decode cc pc = .ok (.getfield idx, 3))
    (kk : W p l e R s m args below meth c H locs cells slots Q (F0 m (pc + 3) ls (v :: rest))) : W p l e R s m args below meth c H locs cells slots Q (F0 m pc ls (.ref a :: rest)) :=
  va_get hx hb hts (xm_ws_in (c := 12) (by decide)) hown hK hP q0 he (xm_cl_at 12 (by decide)) k hk (hts _ hl) (xj_same hts k hk) hv hdg kk
theorem xj_put (hx : p.tables.exec = Jvm.exec) (hb : c.code = cc) (hts : ∀ w ∈ xm_tb, w.before args s = true) {own ref : String} (hown : s.vm.findClass own = some m.cls) (hK : va_K D xm_cl (xm_tys g) s) (hP : va_P D xm_cl ws H) (hD : va_D A ws) (hS0 : va_S A H0 H locs) (q0 : Nat) {fs : List Value} (he : ws[q0]? = some (a, .inr (12, fs))) (k : Nat) (hk : k < 3) {idx : Nat} (hl : Cond.fieldLink own idx ref (xm_fn 12 k).2.1 (xm_fn 12 k).2.2.1 ∈ xm_tb) (hsame : ∀ x, s.fieldFound? (xm_fn 12 k).1 (xm_fn 12 k).2.1 (xm_fn 12 k).2.2.1 = some x → s.fieldFound? ref (xm_fn 12 k).2.1 (xm_fn 12 k).2.2.1 = some x) (hfin : (xm_fn 12 k).2.2.2 = false) {v : Value} (hn : narrow (xm_fty 12 k) v = v) (hfit : fits (xm_fty 12 k) v = true) (hlen : k < fs.length) (hdg : decode cc pc = .ok (.putfield idx, 3))
    (kk : ∀ (H1 : Heap) (locs1 : List Loc), va_P D xm_cl (ws.set q0 (a, .inr (12, fs.set k v))) H1 → va_D A (ws.set q0 (a, .inr (12, fs.set k v))) → va_S A H0 H1 locs1 → W p l e R s m args below meth c H1 locs1 cells slots Q (F0 m (pc + 3) ls rest)) : W p l e R s m args below meth c H locs cells slots Q (F0 m pc ls (v :: .ref a :: rest)) :=
  va_put hx hb hts (xm_ws_in (c := 12) (by decide)) (xm_fty 12) (fun j hj => xm_fty_ok (by decide) hj) (xm_nm (c := 12) (by decide)) hown hK hP hD hS0 q0 he (xm_cl_at 12 (by decide)) k hk (hts _ hl) hsame hfin (xm_fty_ok (c := 12) (by decide) hk) hn hfit hlen hdg kk
theorem xj_runS {y : MethodName} {bytes : ByteArray} {maxL : Nat} {ret : Option FieldType} {rm : Room} {mc ms idx nL : Nat} {Pc : Array Value → State → Prop} {Qc : Array Value → State → Outcome → State → Prop} {free : Addr → Prop} {own : String} {As : List Value} (hx : p.tables.exec = Jvm.exec) (hb : c.code = cc) (hml : c.maxLocals = nL) (hown : s.vm.findClass own = some m.cls) (hts : ∀ w ∈ xm_tb, w.before args s = true) (hM : Met l y (Cond.code y bytes maxL ret :: xm_tb) rm Pc Qc mc ms free) (hG : GoodIn xm_tb (Cond.code y bytes maxL ret :: xm_tb)) (hlk : Cond.methodLink own idx y ∈ xm_tb) (hst : Cond.static y ∈ xm_tb) (hin : Cond.initialized y.cls ∈ xm_tb) (hd : y.cls ≠ "java/lang/invoke/MethodHandle" ∧ y.cls ≠ "java/lang/invoke/VarHandle" ∧ (parseMethodDescriptor y.desc).map (fun d => d.parameters.length) = some As.length) (hrc : rm.cells = mc) (hrs : rm.slots = ms) (hR : rm.frames + 1 ≤ R.frames ∧ 8 + (maxL + 11) + rm.locals ≤ R.locals) (hbl : FrameBlind Pc) (hpc : ∀ U : State, U.heap = H → s.WarmedH U.vm → Pc As.toArray U) (hsz : ls.size = nL) (hrest : (rest.map fun v => v.category).sum ≤ 8) (hdg : decode cc pc = .ok (.invokestatic idx, 3)) (hf : cells + mc ≤ R.cells ∧ slots + ms ≤ R.slots) : va_Run p l e R s m args below meth c H locs cells slots mc ms (F0 m pc ls (As.reverse ++ rest)) rest (Qc As.toArray) free :=
  va_runS ⟨hx, hb, hml, hown, hts⟩ hM ⟨callB_of As.length hts hG rfl hrc hrs (hts _ hin) (hts _ hlk) hd hR, hts _ hst⟩ ⟨hbl, hpc⟩ rfl rfl hsz rfl (lv_room hrest) hdg hf
theorem xj_runV {y : MethodName} {bytes : ByteArray} {maxL : Nat} {ret : Option FieldType} {rm : Room} {mc ms idx nL : Nat} {Pc : Array Value → State → Prop} {Qc : Array Value → State → Outcome → State → Prop} {free : Addr → Prop} {own : String} {As : List Value} {b : Nat} (hx : p.tables.exec = Jvm.exec) (hb : c.code = cc) (hml : c.maxLocals = nL) (hown : s.vm.findClass own = some m.cls) (hts : ∀ w ∈ xm_tb, w.before args s = true) (hM : Met l y (Cond.code y bytes maxL ret :: xm_tb) rm Pc Qc mc ms free) (hG : GoodIn xm_tb (Cond.code y bytes maxL ret :: xm_tb)) (hlk : Cond.methodLink own idx y ∈ xm_tb) (hinst : Cond.instanceMethod y ∈ xm_tb) (hsel : Cond.selects "java/util/ArrayList" y y ∈ xm_tb) (hyc : y.cls = "java/util/ArrayList") (hd : y.cls ≠ "java/lang/invoke/MethodHandle" ∧ y.cls ≠ "java/lang/invoke/VarHandle" ∧ (parseMethodDescriptor y.desc).map (fun d => d.parameters.length) = some As.length) (hrc : rm.cells = mc) (hrs : rm.slots = ms) (hR : rm.frames + 1 ≤ R.frames ∧ 8 + (maxL + 11) + rm.locals ≤ R.locals) (hbl : FrameBlind Pc) (hcell : ∃ cellB : Cell, H[b]? = some cellB ∧ cellB.vm.isStatics = false ∧ s.vm.findClass "java/util/ArrayList" = some cellB.cls) (hpc : ∀ U : State, U.heap = H → s.WarmedH U.vm → Pc (Value.ref b :: As).toArray U) (hsz : ls.size = nL) (hrest : (rest.map fun v => v.category).sum ≤ 8) (hdg : decode cc pc = .ok (.invokevirtual idx, 3)) (hf : cells + mc ≤ R.cells ∧ slots + ms ≤ R.slots) : va_Run p l e R s m args below meth c H locs cells slots mc ms (F0 m pc ls (As.reverse ++ .ref b :: rest)) rest (Qc (Value.ref b :: As).toArray) free :=
  va_runV (C := "java/util/ArrayList") ⟨hx, hb, hml, hown, hts⟩ hM ⟨callB_of As.length hts hG rfl hrc hrs (by rw [hyc]; exact hts _ jn_al) (hts _ hlk) hd hR, hts _ hinst, hts _ hsel⟩ ⟨hbl, hcell, hpc⟩ rfl rfl hsz rfl (lv_room hrest) hdg hf
/-- behind a call that reads -/
theorem xj_read {v : Value} {st0 : List Value} {av : Array Value} (hr : va_Run p l e R s m args below meth c H locs cells slots 0 0 (F0 m pc ls st0) rest (xj_Q (some v) av) (fun _ => False)) (kk : W p l e R s m args below meth c H locs cells slots Q (F0 m (pc + 3) ls (v :: rest))) : W p l e R s m args below meth c H locs cells slots Q (F0 m pc ls st0) := by
  intro T hT X
  obtain ⟨v', st₀, t, T', L, h0, X', hL, e1, e2, ⟨hv, hh⟩, st⟩ := hr T hT X
  cases hv
  obtain ⟨t2, a1, b1⟩ := kk T' (by rw [e1, hh, h0]) (Stand.forget X' (fun q h => (hL q h).elim))
  exact ⟨t2, st t2 a1, b1⟩
end XJ
set_option maxHeartbeats 4000000 in
set_option maxRecDepth 100000 in
theorem xj_pci (l : Launch) (i n : Int32) (h0 : ¬ i < 0) (h1 : i < n) : Met l jy_pci jw_pci xj_r0 (va_Pc [.int i, .int n, .null] (fun _ => True)) (xj_Q (some (.int i))) 0 0 (fun _ => False) := by
  refine Met.ofW (cc := jb_pci) (maxL := 3) (ret := (some .int)) (by decide) rfl ?_
  intro p e s m args below meth c s₁ B hml hv
  obtain ⟨rfl, -⟩ := hv
  have hx := B.exec
  have hb := B.bytes
  have hr := B.returns
  have hts0 := atoms_spec (ws := jw_pci) B.pre
  have hts : ∀ w ∈ xm_tb, w.before _ s = true := fun w h => hts0 w (List.mem_cons_of_mem _ h)
  have hown := findClass_of_methodNamed B.named
  have hlocks := B.notSynchronized
  have hl := lv_entry ([.int i, .int n, .null]) (n := 3) (Nat.le_of_ble_eq_true rfl)
  rw [lg_entry_eq]
  generalize (lg_sl ([.int i, .int n, .null]) ++ List.replicate (3 - (lg_sl ([.int i, .int n, .null])).length) Slot.unset).toArray = ls at hl ⊢
  have hl : lv_has ls 3 [(0, .int i), (1, .int n), (2, .null)] := hl
  refine lv_iload_n hx hb jd_pci_0 rfl (lv_at hl 0 rfl) ?_
  refine lv_if_lt (tgt := 9) hx hb jd_pci_1 (by decide) (fun z => absurd z h0) (fun _ => ?_)
  refine lv_iload_n hx hb jd_pci_4 rfl (lv_at hl 0 rfl) ?_
  refine lv_iload_n hx hb jd_pci_5 rfl (lv_at hl 1 rfl) ?_
  refine lv_icmp_lt (tgt := 16) hx hb jd_pci_6 (by decide) (fun _ => ?_) (fun z => absurd h1 z)
  refine lv_iload_n hx hb jd_pci_16 rfl (lv_at hl 0 rfl) ?_
  exact W.iret hx hb hr (fun t ht _ => ⟨rfl, ht⟩) (fun q h => by cases h) jd_pci_17
set_option maxHeartbeats 4000000 in
set_option maxRecDepth 100000 in
theorem xj_oci (l : Launch) (i n : Int32) (h0 : ¬ i < 0) (h1 : i < n) : Met l jy_oci jw_oci { frames := 1, cells := 0, slots := 0, locals := 22 } (va_Pc [.int i, .int n] (fun _ => True)) (xj_Q (some (.int i))) 0 0 (fun _ => False) := by
  refine Met.ofW (cc := jb_oci) (maxL := 2) (ret := (some .int)) (by decide) rfl ?_
  intro p e s m args below meth c s₁ B hml hv
  obtain ⟨rfl, -⟩ := hv
  have hx := B.exec
  have hb := B.bytes
  have hr := B.returns
  have hts0 := atoms_spec (ws := jw_oci) B.pre
  have hts : ∀ w ∈ xm_tb, w.before _ s = true := fun w h => hts0 w (List.mem_cons_of_mem _ h)
  have hown := findClass_of_methodNamed B.named
  have hlocks := B.notSynchronized
  have hl := lv_entry ([.int i, .int n]) (n := 2) (Nat.le_of_ble_eq_true rfl)
  rw [lg_entry_eq]
  generalize (lg_sl ([.int i, .int n]) ++ List.replicate (2 - (lg_sl ([.int i, .int n])).length) Slot.unset).toArray = ls at hl ⊢
  have hl : lv_has ls 2 [(0, .int i), (1, .int n)] := hl
  refine lv_iload_n hx hb jd_oci_0 rfl (lv_at hl 0 rfl) ?_
  refine lv_iload_n hx hb jd_oci_1 rfl (lv_at hl 1 rfl) ?_
  refine lv_null hx hb jd_oci_2 ?_
  refine xj_read (xj_runS (As := [.int i, .int n, .null]) (rest := []) hx hb hml hown hts (xj_pci l i n h0 h1) jg_pci jm_pci js_pci jn_pre jp_pci rfl rfl ⟨Nat.le_of_ble_eq_true rfl, Nat.le_of_ble_eq_true rfl⟩ (fun _ _ _ _ h => h) (fun U _ _ => ⟨rfl, trivial⟩) hl.1 (Nat.zero_le _) jd_oci_3 ⟨Nat.zero_le _, Nat.zero_le _⟩) ?_
  exact W.iret hx hb hr (fun t ht _ => ⟨rfl, ht⟩) (fun q h => by cases h) jd_oci_6
set_option maxHeartbeats 4000000 in
set_option maxRecDepth 100000 in
theorem xj_size (l : Launch) (D : va_G) (g : xm_G) (a : Nat) (ed : Value) (n mo : Int32) : Met l jy_size jw_size xj_r0 (va_Pc [.ref a] (fun U => va_K D xm_cl (xm_tys g) U ∧ va_P D xm_cl [(a, .inr (12, [ed, .int n, .int mo]))] U.heap)) (xj_Q (some (.int n))) 0 0 (fun _ => False) := by
  refine Met.ofW (cc := jb_size) (maxL := 1) (ret := (some .int)) (by decide) rfl ?_
  intro p e s m args below meth c s₁ B hml hv
  obtain ⟨rfl, hK, hP⟩ := hv
  have hx := B.exec
  have hb := B.bytes
  have hr := B.returns
  have hts0 := atoms_spec (ws := jw_size) B.pre
  have hts : ∀ w ∈ xm_tb, w.before _ s = true := fun w h => hts0 w (List.mem_cons_of_mem _ h)
  have hown := findClass_of_methodNamed B.named
  have hlocks := B.notSynchronized
  have hl := lv_entry ([.ref a]) (n := 1) (Nat.le_of_ble_eq_true rfl)
  rw [lg_entry_eq]
  generalize (lg_sl ([.ref a]) ++ List.replicate (1 - (lg_sl ([.ref a])).length) Slot.unset).toArray = ls at hl ⊢
  have hl : lv_has ls 1 [(0, .ref a)] := hl
  refine lv_aload_n hx hb jd_size_0 rfl (lv_at hl 0 rfl) ?_
  refine xj_get hx hb hts hown hK hP 0 rfl 1 (by decide) jf_sz rfl jd_size_1 ?_
  exact W.iret hx hb hr (fun t ht _ => ⟨rfl, ht⟩) (fun q h => by cases h) jd_size_4
set_option maxHeartbeats 4000000 in
set_option maxRecDepth 100000 in
theorem xj_emp (l : Launch) (D : va_G) (g : xm_G) (a : Nat) (ed : Value) (n mo : Int32) : Met l jy_emp jw_emp xj_r0 (va_Pc [.ref a] (fun U => va_K D xm_cl (xm_tys g) U ∧ va_P D xm_cl [(a, .inr (12, [ed, .int n, .int mo]))] U.heap)) (xj_Q (some (.int (if n = 0 then 1 else 0)))) 0 0 (fun _ => False) := by
  refine Met.ofW (cc := jb_emp) (maxL := 1) (ret := (some .boolean)) (by decide) rfl ?_
  intro p e s m args below meth c s₁ B hml hv
  obtain ⟨rfl, hK, hP⟩ := hv
  have hx := B.exec
  have hb := B.bytes
  have hr := B.returns
  have hts0 := atoms_spec (ws := jw_emp) B.pre
  have hts : ∀ w ∈ xm_tb, w.before _ s = true := fun w h => hts0 w (List.mem_cons_of_mem _ h)
  have hown := findClass_of_methodNamed B.named
  have hlocks := B.notSynchronized
  have hl := lv_entry ([.ref a]) (n := 1) (Nat.le_of_ble_eq_true rfl)
  rw [lg_entry_eq]
  generalize (lg_sl ([.ref a]) ++ List.replicate (1 - (lg_sl ([.ref a])).length) Slot.unset).toArray = ls at hl ⊢
  have hl : lv_has ls 1 [(0, .ref a)] := hl
  refine lv_aload_n hx hb jd_emp_0 rfl (lv_at hl 0 rfl) ?_
  refine xj_get hx hb hts hown hK hP 0 rfl 1 (by decide) jf_sz rfl jd_emp_1 ?_
  refine lv_if_ne (tgt := 11) hx hb jd_emp_4 (by decide) (fun z => ?_) (fun z => ?_)
  · refine lv_iconst (v := 0) hx hb jd_emp_11 (by decide) ?_
    rw [if_neg z]
    exact W.zret hx hb hr rfl (fun t ht _ => ⟨rfl, ht⟩) (fun q h => by cases h) jd_emp_12
  · refine lv_iconst (v := 1) hx hb jd_emp_7 (by decide) ?_
    refine lv_goto (tgt := 12) hx hb jd_emp_8 (by decide) ?_
    rw [if_pos z]
    exact W.zret hx hb hr rfl (fun t ht _ => ⟨rfl, ht⟩) (fun q h => by cases h) jd_emp_12
set_option maxHeartbeats 4000000 in
set_option maxRecDepth 100000 in
theorem xj_eld (l : Launch) (D : va_G) (g : xm_G) (a b : Nat) (n mo : Int32) (k : Nat) (f : Nat → Option Nat) (i : Int32) (hi : vp_in i k) (v : Nat) (hv : f i.toNatClampNeg = some v) : Met l jy_eld jw_eld xj_r0 (va_Pc [.ref a, .int i] (fun U => va_K D xm_cl (xm_tys g) U ∧ va_P D xm_cl [(a, .inr (12, [.ref b, .int n, .int mo])), (b, .inl (g.2.2.2.1, k, .inr (.inr (.inr (.inr f)))))] U.heap)) (xj_Q (some (.ref v))) 0 0 (fun _ => False) := by
  refine Met.ofW (cc := jb_eld) (maxL := 2) (ret := (some (.object "java/lang/Object"))) (by decide) rfl ?_
  intro p e s m args below meth c s₁ B hml hv
  obtain ⟨rfl, hK, hP⟩ := hv
  have hx := B.exec
  have hb := B.bytes
  have hr := B.returns
  have hts0 := atoms_spec (ws := jw_eld) B.pre
  have hts : ∀ w ∈ xm_tb, w.before _ s = true := fun w h => hts0 w (List.mem_cons_of_mem _ h)
  have hown := findClass_of_methodNamed B.named
  have hlocks := B.notSynchronized
  have hl := lv_entry ([.ref a, .int i]) (n := 2) (Nat.le_of_ble_eq_true rfl)
  rw [lg_entry_eq]
  generalize (lg_sl ([.ref a, .int i]) ++ List.replicate (2 - (lg_sl ([.ref a, .int i])).length) Slot.unset).toArray = ls at hl ⊢
  have hl : lv_has ls 2 [(0, .ref a), (1, .int i)] := hl
  refine lv_aload_n hx hb jd_eld_0 rfl (lv_at hl 0 rfl) ?_
  refine xj_get hx hb hts hown hK hP 0 rfl 0 (by decide) jf_ed rfl jd_eld_1 ?_
  refine lv_iload_n hx hb jd_eld_4 rfl (lv_at hl 1 rfl) ?_
  refine va_aldq hx hb hK hP 1 3 rfl rfl hi jd_eld_5 ?_
  rw [hv]
  exact W.aret hx hb hr (Or.inl ⟨_, rfl⟩) (Or.inr ⟨v, rfl⟩) (fun t ht _ => ⟨rfl, ht⟩) (fun q h => by cases h) jd_eld_6
set_option maxHeartbeats 4000000 in
set_option maxRecDepth 100000 in
theorem xj_getm (l : Launch) (D : va_G) (g : xm_G) (a b : Nat) (n mo : Int32) (k : Nat) (f : Nat → Option Nat) (i : Int32) (hi : vp_in i k) (v : Nat) (hv : f i.toNatClampNeg = some v) (h0 : ¬ i < 0) (h1 : i < n) : Met l jy_get jw_get { frames := 2, cells := 0, slots := 0, locals := 43 } (va_Pc [.ref a, .int i] (fun U => va_K D xm_cl (xm_tys g) U ∧ va_P D xm_cl [(a, .inr (12, [.ref b, .int n, .int mo])), (b, .inl (g.2.2.2.1, k, .inr (.inr (.inr (.inr f)))))] U.heap)) (xj_Q (some (.ref v))) 0 0 (fun _ => False) := by
  refine Met.ofW (cc := jb_get) (maxL := 2) (ret := (some (.object "java/lang/Object"))) (by decide) rfl ?_
  intro p e s m args below meth c s₁ B hml hv
  obtain ⟨rfl, hK, hP⟩ := hv
  have hx := B.exec
  have hb := B.bytes
  have hr := B.returns
  have hts0 := atoms_spec (ws := jw_get) B.pre
  have hts : ∀ w ∈ xm_tb, w.before _ s = true := fun w h => hts0 w (List.mem_cons_of_mem _ h)
  have hown := findClass_of_methodNamed B.named
  have hlocks := B.notSynchronized
  have hl := lv_entry ([.ref a, .int i]) (n := 2) (Nat.le_of_ble_eq_true rfl)
  rw [lg_entry_eq]
  generalize (lg_sl ([.ref a, .int i]) ++ List.replicate (2 - (lg_sl ([.ref a, .int i])).length) Slot.unset).toArray = ls at hl ⊢
  have hl : lv_has ls 2 [(0, .ref a), (1, .int i)] := hl
  refine lv_iload_n hx hb jd_get_0 rfl (lv_at hl 1 rfl) ?_
  refine lv_aload_n hx hb jd_get_1 rfl (lv_at hl 0 rfl) ?_
  refine xj_get hx hb hts hown hK hP 0 rfl 1 (by decide) jf_sz rfl jd_get_2 ?_
  refine xj_read (xj_runS (As := [.int i, .int n]) (rest := []) hx hb hml hown hts (xj_oci l i n h0 h1) jg_oci jm_oci js_oci jn_obj jp_oci rfl rfl ⟨Nat.le_of_ble_eq_true rfl, Nat.le_of_ble_eq_true rfl⟩ (fun _ _ _ _ h => h) (fun U _ _ => ⟨rfl, trivial⟩) hl.1 (Nat.zero_le _) jd_get_5 ⟨Nat.zero_le _, Nat.zero_le _⟩) ?_
  refine lv_pop hx hb jd_get_8 rfl ?_
  refine lv_aload_n hx hb jd_get_9 rfl (lv_at hl 0 rfl) ?_
  refine lv_iload_n hx hb jd_get_10 rfl (lv_at hl 1 rfl) ?_
  refine xj_read (xj_runV (As := [.int i]) (rest := []) (b := a) hx hb hml hown hts (xj_eld l D g a b n mo k f i hi v hv) jg_eld jm_eld ji_eld jv_eld rfl jp_eld rfl rfl ⟨Nat.le_of_ble_eq_true rfl, Nat.le_of_ble_eq_true rfl⟩ (fun a U f mk h => ⟨h.1, va_K.moved (u := U) (U := U.calling f mk a) (Vm.Alike.refl U.vm) h.2.1, h.2.2⟩) (va_recv hK hP (ci := 12) (q := (xm_cn 12, (fun k => xm_fn 12 k), xm_nf 12)) (xm_cl_at 12 (by decide)) (q0 := 0) rfl) (fun U hU hW => ⟨rfl, va_K.moved hW.alike hK, by rw [hU]; exact hP⟩) hl.1 (Nat.zero_le _) jd_get_11 ⟨Nat.zero_le _, Nat.zero_le _⟩) ?_
  exact W.aret hx hb hr (Or.inl ⟨_, rfl⟩) (Or.inr ⟨v, rfl⟩) (fun t ht _ => ⟨rfl, ht⟩) (fun q h => by cases h) jd_get_14
