/-! ===== the JDK's lists: growing ===== -/
abbrev xj_QG (D : va_G) (ws : Nat → va_W) (A : Nat → Prop) : Array Value → State → Outcome → State → Prop := fun _ st oc t => ∃ q, oc = .returned (some (.ref q)) ∧ va_P D xm_cl (ws q) t.heap ∧ va_D A (ws q) ∧ va_F A st t
abbrev xj_at (a : Nat) (g : xm_G) (k : Nat) (f : Nat → Option Nat) : Nat × va_E := (a, .inl (g.2.2.2.1, k, .inr (.inr (.inr (.inr f)))))
abbrev xj_li (a : Nat) (ed : Value) (n mo : Int32) : Nat × va_E := (a, .inr (12, [ed, .int n, .int mo]))
theorem xj_nmO {D : va_G} {g : xm_G} {s : State} (hK : va_K D xm_cl (xm_tys g) s) : s.vm.findClass "[Ljava/lang/Object;" = some g.2.2.2.1 := va_nmO (hK.2 3 (g.2.2.2.1, .object "java/lang/Object") rfl).2 (by decide +kernel)
abbrev xj_els (U : State) (H : Heap) (f : Nat → Option Nat) (k : Nat) (a b : Nat) : Prop := ∀ q y, q < k → f q = some y → va_Any xj_ob U H y ∧ y ≠ a ∧ y ≠ b
set_option maxHeartbeats 4000000 in
set_option maxRecDepth 100000 in
theorem xj_cp3 (l : Launch) (D : va_G) (g : xm_G) (b k N sz mi : Nat) (f : Nat → Option Nat) (hkN : k ≤ N) (hN : N ≤ 150000) : Met l jy_cp3 jw_cp3 { frames := 1, cells := 1, slots := N, locals := 40 } (va_Pc [.ref b, .int (nI N), .ref mi] (fun U => va_K D xm_cl (xm_tys g) U ∧ va_P D xm_cl [xj_at b g k f] U.heap ∧ va_D (fun _ => True) [xj_at b g k f] ∧ U.heap.size = sz ∧ va_AO "java/lang/Object" U ∧ va_Mi "[Ljava/lang/Object;" mi U ∧ xj_els U U.heap f k b b)) (xj_QG D (fun q => [xj_at b g k f, xj_at q g N (va_cpy f (fun _ => none) 0 0 k)]) (va_A [xj_at b g k f] sz)) 1 N (va_A [xj_at b g k f] sz) := by
  refine Met.ofW (cc := jb_cp3) (maxL := 4) (ret := (some (.array (.object "java/lang/Object")))) (by decide) rfl ?_
  intro p e s m args below meth c s₁ B hml hv
  obtain ⟨rfl, hK, hP, hD0, hsz, hAO, hMi, hel⟩ := hv
  have hx := B.exec
  have hb := B.bytes
  have hr := B.returns
  have hts0 := atoms_spec (ws := jw_cp3) B.pre
  have hts : ∀ w ∈ xm_tb, w.before _ s = true := fun w h => hts0 w (List.mem_cons_of_mem _ h)
  have hown := findClass_of_methodNamed B.named
  have hlocks := B.notSynchronized
  subst hsz
  have hD := hD0.self (sz := s.heap.size)
  generalize hAe : va_A [xj_at b g k f] s.heap.size = A at hD ⊢
  have hA : ∀ q : Nat, s.heap.size ≤ q → A q := fun q h => by rw [← hAe]; exact Or.inr h
  have hS : va_S A s.heap s.heap [] := va_S.rf
  have hP : va_P D xm_cl [xj_at b g k f] s.heap := hP
  have hl := lv_entry ([.ref b, .int (nI N), .ref mi]) (n := 4) (Nat.le_of_ble_eq_true rfl)
  rw [lg_entry_eq]
  generalize (lg_sl ([.ref b, .int (nI N), .ref mi]) ++ List.replicate (4 - (lg_sl ([.ref b, .int (nI N), .ref mi])).length) Slot.unset).toArray = ls at hl ⊢
  have hl : lv_has ls 4 [(0, .ref b), (1, .int (nI N)), (2, .ref mi)] := hl
  refine lv_aload_n hx hb jd_cp3_0 rfl (lv_at hl 2 rfl) ?_
  refine va_ldcM hx hb hown (hts _ jk_oa) hMi jd_cp3_1 ?_
  refine lv_acmp_ne (rx := some mi) (ry := some mi) (tgt := 13) hx hb jd_cp3_3 (by decide) (fun zz => absurd rfl zz) (fun _ => ?_)
  refine lv_iload_n hx hb jd_cp3_6 rfl (lv_at hl 1 rfl) ?_
  refine va_newq hx hb hown (hts _ jk_ob2) hAO hK hP hD hS hA (nI_pos (by omega)) (nI_clamp (by omega)) (by omega) (Nat.le_of_ble_eq_true rfl) (show 0 + N ≤ N by omega) jd_cp3_7 (fun q cA H hK2 hP hD hS => ?_)
  have hcA : cA = g.2.2.2.1 := by
    obtain ⟨kA, comp, -, -, -, k4⟩ := (hK2.2 4 (cA, .object "java/lang/Object") rfl).2
    obtain ⟨kA2, comp2, -, -, -, k5⟩ := (hK.2 3 (g.2.2.2.1, .object "java/lang/Object") rfl).2
    exact Option.some.inj (k4.symm.trans k5)
  subst hcA
  have hP : va_P D xm_cl [xj_at b g k f, xj_at q g N (fun _ => none)] H := hP
  have hD : va_D A [xj_at b g k f, xj_at q g N (fun _ => none)] := hD
  refine lv_goto (tgt := 24) hx hb jd_cp3_10 (by decide) ?_
  refine lv_astore_n (lv' := [(3, .ref q), (0, .ref b), (1, .int (nI N)), (2, .ref mi)]) hx hb jd_cp3_24 rfl hl (by decide) rfl (fun ls hl => ?_)
  refine lv_aload_n hx hb jd_cp3_25 rfl (lv_at hl 1 rfl) ?_
  refine lv_iconst (v := 0) hx hb jd_cp3_26 (by decide) ?_
  refine lv_aload_n hx hb jd_cp3_27 rfl (lv_at hl 0 rfl) ?_
  refine lv_iconst (v := 0) hx hb jd_cp3_28 (by decide) ?_
  refine lv_aload_n hx hb jd_cp3_29 rfl (lv_at hl 1 rfl) ?_
  refine va_alen (v := nI k) hx hb hK hP 0 3 rfl rfl rfl jd_cp3_30 ?_
  refine lv_iload_n hx hb jd_cp3_31 rfl (lv_at hl 2 rfl) ?_
  refine va_mmin hx hb (by rw [hml]; exact hl.1.symm) hown (hts _ jm_min) (hts _ jzs_min) (hts _ jn_mat) (hts _ jz_min) (Nat.le_of_ble_eq_true rfl) (Nat.le_of_ble_eq_true rfl) (Nat.le_refl _) (show 0 + N ≤ N by omega) jd_cp3_32 ?_
  rw [if_neg (nI_nlt hkN (by omega))]
  have e3 : (nI k).toNatClampNeg = k := nI_clamp (by omega)
  refine va_copyM (rest := []) hx hb (by rw [hml]; exact hl.1.symm) hown (hts _ jm_ac2) (hts _ jt_nat) (hts _ jt_sta) (hts _ jn_sys) hK hP hD hS 0 1 3 3 rfl rfl rfl rfl (by decide) (by decide) (nI_pos (by omega)) (by rw [e3, sb_cl0]; omega) (by rw [e3, sb_cl0]; omega) (fun z hz y hy => xj_any_S (hel z y (by rw [e3] at hz; exact hz) (by rw [sb_cl0, Nat.zero_add] at hy; exact hy)).1 (by rw [← hAe]; exact xj_notA1 (hel z y (by rw [e3] at hz; exact hz) (by rw [sb_cl0, Nat.zero_add] at hy; exact hy)).2.1 (xj_any_lt (hel z y (by rw [e3] at hz; exact hz) (by rw [sb_cl0, Nat.zero_add] at hy; exact hy)).1)) hS) (Nat.le_of_ble_eq_true rfl) (Nat.le_of_ble_eq_true rfl) jd_cp3_35 (fun H locs hP hD hS => ?_)
  rw [e3, sb_cl0] at hP hD
  have hP : va_P D xm_cl [xj_at b g k f, xj_at q g N (va_cpy f (fun _ => none) 0 0 k)] H := hP
  have hD : va_D A [xj_at b g k f, xj_at q g N (va_cpy f (fun _ => none) 0 0 k)] := hD
  refine lv_aload_n hx hb jd_cp3_38 rfl (lv_at hl 0 rfl) ?_
  refine W.widen (k := 1) (n := N) (Nat.le_refl _) (by omega) ?_
  exact W.aret hx hb hr (Or.inr ⟨_, rfl⟩) (Or.inr ⟨q, rfl⟩) (fun t ht hW => ⟨_, rfl, by rw [ht]; exact hP, hD, hS.F ht⟩) hS.2.2 jd_cp3_39
set_option maxHeartbeats 4000000 in
set_option maxRecDepth 100000 in
theorem xj_cp2 (l : Launch) (D : va_G) (g : xm_G) (b k N sz mi : Nat) (f : Nat → Option Nat) (hkN : k ≤ N) (hN : N ≤ 150000) : Met l jy_cp2 jw_cp2 { frames := 2, cells := 1, slots := N, locals := 70 } (va_Pc [.ref b, .int (nI N)] (fun U => va_K D xm_cl (xm_tys g) U ∧ va_P D xm_cl [xj_at b g k f] U.heap ∧ va_D (fun _ => True) [xj_at b g k f] ∧ U.heap.size = sz ∧ va_AO "java/lang/Object" U ∧ va_Mi "[Ljava/lang/Object;" mi U ∧ va_Dc U ∧ xj_els U U.heap f k b b)) (xj_QG D (fun q => [xj_at b g k f, xj_at q g N (va_cpy f (fun _ => none) 0 0 k)]) (va_A [xj_at b g k f] sz)) 1 N (va_A [xj_at b g k f] sz) := by
  refine Met.ofW (cc := jb_cp2) (maxL := 2) (ret := (some (.array (.object "java/lang/Object")))) (by decide) rfl ?_
  intro p e s m args below meth c s₁ B hml hv
  obtain ⟨rfl, hK, hP, hD0, hsz, hAO, hMi, hDc, hel⟩ := hv
  have hx := B.exec
  have hb := B.bytes
  have hr := B.returns
  have hts0 := atoms_spec (ws := jw_cp2) B.pre
  have hts : ∀ w ∈ xm_tb, w.before _ s = true := fun w h => hts0 w (List.mem_cons_of_mem _ h)
  have hown := findClass_of_methodNamed B.named
  have hlocks := B.notSynchronized
  subst hsz
  have hD := hD0.self (sz := s.heap.size)
  generalize hAe : va_A [xj_at b g k f] s.heap.size = A at hD ⊢
  have hA : ∀ q : Nat, s.heap.size ≤ q → A q := fun q h => by rw [← hAe]; exact Or.inr h
  have hS : va_S A s.heap s.heap [] := va_S.rf
  have hP : va_P D xm_cl [xj_at b g k f] s.heap := hP
  have hl := lv_entry ([.ref b, .int (nI N)]) (n := 2) (Nat.le_of_ble_eq_true rfl)
  rw [lg_entry_eq]
  generalize (lg_sl ([.ref b, .int (nI N)]) ++ List.replicate (2 - (lg_sl ([.ref b, .int (nI N)])).length) Slot.unset).toArray = ls at hl ⊢
  have hl : lv_has ls 2 [(0, .ref b), (1, .int (nI N))] := hl
  refine lv_aload_n hx hb jd_cp2_0 rfl (lv_at hl 0 rfl) ?_
  refine lv_iload_n hx hb jd_cp2_1 rfl (lv_at hl 1 rfl) ?_
  refine lv_aload_n hx hb jd_cp2_2 rfl (lv_at hl 0 rfl) ?_
  refine va_getC (C := "[Ljava/lang/Object;") hx hb (by rw [hml]; exact hl.1.symm) hown (hts _ jm_gcl) (va_Dc.use hDc) (hts _ jg_sel) (hts _ jg_inst) (hts _ jg_nat) hMi ⟨_, hP 0 _ rfl, rfl, xj_nmO hK⟩ (Nat.le_of_ble_eq_true rfl) (Nat.le_of_ble_eq_true rfl) jd_cp2_3 ?_
  refine xm_goon (xj_runS (As := [.ref b, .int (nI N), .ref mi]) (rest := []) hx hb hml hown hts (xj_cp3 l D g b k N s.heap.size mi f hkN hN) jg_cp3 jm_cp3 js_cp3 jn_arr jp_cp3 rfl rfl ⟨Nat.le_of_ble_eq_true rfl, Nat.le_of_ble_eq_true rfl⟩ (fun a U f mk h => ⟨h.1, va_K.moved (u := U) (U := U.calling f mk a) (Vm.Alike.refl U.vm) h.2.1, h.2.2.1, h.2.2.2.1, h.2.2.2.2.1, va_AO.moved (u := U) (U := U.calling f mk a) (Vm.Alike.refl U.vm) h.2.2.2.2.2.1, va_Mi.moved (u := U) (U := U.calling f mk a) (Vm.Alike.refl U.vm) h.2.2.2.2.2.2.1, h.2.2.2.2.2.2.2⟩) (fun U hU hW => ⟨rfl, va_K.moved hW.alike hK, by rw [hU]; exact hP, hD0, by rw [hU], hAO.moved hW.alike, hMi.moved hW.alike, fun z y h1 h2 => ⟨by rw [hU]; exact xj_any_moved hW.alike (hel z y h1 h2).1, (hel z y h1 h2).2⟩⟩) hl.1 (Nat.zero_le _) jd_cp2_6 ⟨Nat.le_of_ble_eq_true rfl, show 0 + N ≤ N by omega⟩) (fun v9 st₀ t L9 h9 hal9 hL9 hq9 => ?_)
  obtain ⟨q, hv9, hP9, hD9, hF9⟩ := hq9
  cases hv9
  rw [hAe] at hD9 hF9 hL9
  refine W.widen (k := 1) (n := N) (Nat.le_refl _) (by omega) ?_
  exact W.aret hx hb hr (Or.inr ⟨_, rfl⟩) (Or.inr ⟨q, rfl⟩) (fun t2 ht hW => ⟨q, rfl, by rw [ht]; exact hP9, hD9, by unfold va_F at hF9 ⊢; rw [ht, ← h9]; exact hF9⟩) (fun z hz => hL9 z (by simpa using hz)) jd_cp2_9
