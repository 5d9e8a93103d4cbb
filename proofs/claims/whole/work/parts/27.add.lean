/-! ===== the JDK's lists: add ===== -/
abbrev xj_QX (D : va_G) (v : Option Value) (ws : Nat → va_W) (A : Nat → Prop) : Array Value → State → Outcome → State → Prop := fun _ st oc t => ∃ q, oc = .returned v ∧ va_P D xm_cl (ws q) t.heap ∧ va_D A (ws q) ∧ va_F A st t
set_option maxHeartbeats 4000000 in
set_option maxRecDepth 100000 in
theorem xj_ad3r (l : Launch) (D : va_G) (g : xm_G) (a b : Nat) (mo : Int32) (k z sz x : Nat) (f : Nat → Option Nat) (hz : z < k) (hk : k ≤ 150000) (hxa : x ≠ a) (hxb : x ≠ b) : Met l jy_ad3 jw_ad3 { frames := 5, cells := 0, slots := 0, locals := 150 } (va_Pc [.ref a, .ref x, .ref b, .int (nI z)] (fun U => va_K D xm_cl (xm_tys g) U ∧ va_P D xm_cl [xj_li a (.ref b) (nI z) mo, xj_at b g k f] U.heap ∧ va_D (fun _ => True) [xj_li a (.ref b) (nI z) mo, xj_at b g k f] ∧ U.heap.size = sz ∧ va_Any xj_ob U U.heap x)) (xj_QW D none [xj_li a (.ref b) (nI (z + 1)) mo, xj_at b g k (va_up f z (some x))] (va_A [xj_li a (.ref b) (nI z) mo, xj_at b g k f] sz)) 0 0 (va_A [xj_li a (.ref b) (nI z) mo, xj_at b g k f] sz) := by
  refine Met.ofW (cc := jb_ad3) (maxL := 4) (ret := none) (by decide) rfl ?_
  intro p e s m args below meth c s₁ B hml hv
  obtain ⟨rfl, hK, hP, hD0, hsz, hany⟩ := hv
  have hx := B.exec
  have hb := B.bytes
  have hr := B.returns
  have hts0 := atoms_spec (ws := jw_ad3) B.pre
  have hts : ∀ w ∈ xm_tb, w.before _ s = true := fun w h => hts0 w (List.mem_cons_of_mem _ h)
  have hown := findClass_of_methodNamed B.named
  have hlocks := B.notSynchronized
  subst hsz
  have hD := hD0.self (sz := s.heap.size)
  generalize hAe : va_A [xj_li a (.ref b) (nI z) mo, xj_at b g k f] s.heap.size = A at hD ⊢
  have hA : ∀ q : Nat, s.heap.size ≤ q → A q := fun q h => by rw [← hAe]; exact Or.inr h
  have hS : va_S A s.heap s.heap [] := va_S.rf
  have hP : va_P D xm_cl [xj_li a (.ref b) (nI z) mo, xj_at b g k f] s.heap := hP
  have hl := lv_entry ([.ref a, .ref x, .ref b, .int (nI z)]) (n := 4) (Nat.le_of_ble_eq_true rfl)
  rw [lg_entry_eq]
  generalize (lg_sl ([.ref a, .ref x, .ref b, .int (nI z)]) ++ List.replicate (4 - (lg_sl ([.ref a, .ref x, .ref b, .int (nI z)])).length) Slot.unset).toArray = ls at hl ⊢
  have hl : lv_has ls 4 [(0, .ref a), (1, .ref x), (2, .ref b), (3, .int (nI z))] := hl
  have hxA : ¬ A x := by rw [← hAe]; exact xj_notA hxa hxb (xj_any_lt hany)
  refine lv_iload_n hx hb jd_ad3_0 rfl (lv_at hl 3 rfl) ?_
  refine lv_aload_n hx hb jd_ad3_1 rfl (lv_at hl 2 rfl) ?_
  refine va_alen (v := nI k) hx hb hK hP 1 3 rfl rfl rfl jd_ad3_2 ?_
  refine lv_icmp_ne (tgt := 11) hx hb jd_ad3_3 (by decide) (fun _ => ?_) (fun zz => absurd ((nI_eq (by omega) (by omega)).mp zz) (by omega))
  refine lv_aload_n hx hb jd_ad3_11 rfl (lv_at hl 2 rfl) ?_
  refine lv_iload_n hx hb jd_ad3_12 rfl (lv_at hl 3 rfl) ?_
  refine lv_aload_n hx hb jd_ad3_13 rfl (lv_at hl 1 rfl) ?_
  refine va_astqM hx hb hK hP hD hS 1 3 rfl rfl (xj_any_S hany hxA hS) (vp_in_nI (by omega) (by omega)) jd_ad3_14 (fun H locs hP hD hS => ?_)
  rw [nI_clamp (by omega)] at hP hD
  have hP : va_P D xm_cl [xj_li a (.ref b) (nI z) mo, xj_at b g k (va_up f z (some x))] H := hP
  have hD : va_D A [xj_li a (.ref b) (nI z) mo, xj_at b g k (va_up f z (some x))] := hD
  refine lv_aload_n hx hb jd_ad3_15 rfl (lv_at hl 0 rfl) ?_
  refine lv_iload_n hx hb jd_ad3_16 rfl (lv_at hl 3 rfl) ?_
  refine lv_iconst (v := 1) hx hb jd_ad3_17 (by decide) ?_
  refine lv_iadd hx hb jd_ad3_18 ?_
  rw [nI_1]
  refine xj_put (v := .int (nI (z + 1))) hx hb hts hown hK hP hD hS 0 rfl 1 (by decide) jf_sz (xj_same hts 1 (by decide)) xj_f1 (xj_n1 _).1 (xj_n1 _).2 (Nat.le_of_ble_eq_true rfl) jd_ad3_19 (fun H locs hP hD hS => ?_)
  have hP : va_P D xm_cl [xj_li a (.ref b) (nI (z + 1)) mo, xj_at b g k (va_up f z (some x))] H := hP
  have hD : va_D A [xj_li a (.ref b) (nI (z + 1)) mo, xj_at b g k (va_up f z (some x))] := hD
  exact W.vret hx hb hr (fun t ht hW => ⟨rfl, by rw [ht]; exact hP, hD, hS.F ht⟩) hS.2.2 jd_ad3_22
set_option maxHeartbeats 4000000 in
set_option maxRecDepth 100000 in
theorem xj_ad3f (l : Launch) (D : va_G) (g : xm_G) (a b : Nat) (mo : Int32) (k sz mi : Nat) (x : Nat) (f : Nat → Option Nat) (h10 : 10 ≤ k) (hk : k ≤ 100000) (hxa : x ≠ a) (hxb : x ≠ b) : Met l jy_ad3 jw_ad3 { frames := 5, cells := 1, slots := k + k / 2, locals := 150 } (va_Pc [.ref a, .ref x, .ref b, .int (nI k)] (fun U => va_K D xm_cl (xm_tys g) U ∧ va_P D xm_cl [xj_li a (.ref b) (nI k) mo, xj_at b g k f] U.heap ∧ va_D (fun _ => True) [xj_li a (.ref b) (nI k) mo, xj_at b g k f] ∧ U.heap.size = sz ∧ va_AO "java/lang/Object" U ∧ va_Mi "[Ljava/lang/Object;" mi U ∧ va_Dc U ∧ xj_els U U.heap f k a b ∧ va_Any xj_ob U U.heap x)) (xj_QX D none (fun q => [xj_li a (.ref q) (nI (k + 1)) mo, xj_at b g k f, xj_at q g (k + k / 2) (va_up (va_cpy f (fun _ => none) 0 0 k) k (some x))]) (va_A [xj_li a (.ref b) (nI k) mo, xj_at b g k f] sz)) 1 (k + k / 2) (va_A [xj_li a (.ref b) (nI k) mo, xj_at b g k f] sz) := by
  refine Met.ofW (cc := jb_ad3) (maxL := 4) (ret := none) (by decide) rfl ?_
  intro p e s m args below meth c s₁ B hml hv
  obtain ⟨rfl, hK, hP, hD0, hsz, hAO, hMi, hDcl, hel, hany⟩ := hv
  have hx := B.exec
  have hb := B.bytes
  have hr := B.returns
  have hts0 := atoms_spec (ws := jw_ad3) B.pre
  have hts : ∀ w ∈ xm_tb, w.before _ s = true := fun w h => hts0 w (List.mem_cons_of_mem _ h)
  have hown := findClass_of_methodNamed B.named
  have hlocks := B.notSynchronized
  subst hsz
  have hD := hD0.self (sz := s.heap.size)
  generalize hAe : va_A [xj_li a (.ref b) (nI k) mo, xj_at b g k f] s.heap.size = A at hD ⊢
  have hA : ∀ q : Nat, s.heap.size ≤ q → A q := fun q h => by rw [← hAe]; exact Or.inr h
  have hS : va_S A s.heap s.heap [] := va_S.rf
  have hP : va_P D xm_cl [xj_li a (.ref b) (nI k) mo, xj_at b g k f] s.heap := hP
  have hl := lv_entry ([.ref a, .ref x, .ref b, .int (nI k)]) (n := 4) (Nat.le_of_ble_eq_true rfl)
  rw [lg_entry_eq]
  generalize (lg_sl ([.ref a, .ref x, .ref b, .int (nI k)]) ++ List.replicate (4 - (lg_sl ([.ref a, .ref x, .ref b, .int (nI k)])).length) Slot.unset).toArray = ls at hl ⊢
  have hl : lv_has ls 4 [(0, .ref a), (1, .ref x), (2, .ref b), (3, .int (nI k))] := hl
  have hxA : ¬ A x := by rw [← hAe]; exact xj_notA hxa hxb (xj_any_lt hany)
  refine lv_iload_n hx hb jd_ad3_0 rfl (lv_at hl 3 rfl) ?_
  refine lv_aload_n hx hb jd_ad3_1 rfl (lv_at hl 2 rfl) ?_
  refine va_alen (v := nI k) hx hb hK hP 1 3 rfl rfl rfl jd_ad3_2 ?_
  refine lv_icmp_ne (tgt := 11) hx hb jd_ad3_3 (by decide) (fun zz => absurd rfl zz) (fun _ => ?_)
  refine lv_aload_n hx hb jd_ad3_6 rfl (lv_at hl 0 rfl) ?_
  refine xm_goon (xj_runV (As := []) (rest := []) (b := a) hx hb hml hown hts (xj_gr0 l D g a b mo k s.heap.size mi f h10 hk) jg_gr0 jm_gr0 ji_gr0 jv_gr0 rfl jp_gr0 rfl rfl ⟨Nat.le_of_ble_eq_true rfl, Nat.le_of_ble_eq_true rfl⟩ (fun a U f mk h => ⟨h.1, va_K.moved (u := U) (U := U.calling f mk a) (Vm.Alike.refl U.vm) h.2.1, h.2.2.1, h.2.2.2.1, h.2.2.2.2.1, va_AO.moved (u := U) (U := U.calling f mk a) (Vm.Alike.refl U.vm) h.2.2.2.2.2.1, va_Mi.moved (u := U) (U := U.calling f mk a) (Vm.Alike.refl U.vm) h.2.2.2.2.2.2.1, va_Dc.moved (u := U) (U := U.calling f mk a) (Vm.Alike.refl U.vm) h.2.2.2.2.2.2.2.1, h.2.2.2.2.2.2.2.2⟩) (va_recv hK hP (ci := 12) (q := (xm_cn 12, (fun k => xm_fn 12 k), xm_nf 12)) (xm_cl_at 12 (by decide)) (q0 := 0) rfl) (fun U hU hW => ⟨rfl, va_K.moved hW.alike hK, by rw [hU]; exact hP, hD0, by rw [hU], hAO.moved hW.alike, hMi.moved hW.alike, hDcl.moved hW.alike, fun z y h1 h2 => ⟨by rw [hU]; exact xj_any_moved hW.alike (hel z y h1 h2).1, (hel z y h1 h2).2⟩⟩) hl.1 (Nat.zero_le _) jd_ad3_7 ⟨Nat.le_of_ble_eq_true rfl, show 0 + (k + k / 2) ≤ k + k / 2 by omega⟩) (fun v9 st₀ t L9 h9 hal9 hL9 hq9 => ?_)
  obtain ⟨q, hv9, hP9, hD9, hF9⟩ := hq9
  cases hv9
  rw [hAe] at hD9 hF9 hL9
  have hS9 : va_S A s.heap t.heap ([] ++ L9) := ⟨by rw [← h9]; exact hF9.1, fun w w1 w2 => by rw [← h9] at w1 ⊢; exact hF9.2 w w1 w2, fun w hw => hL9 w (by simpa using hw)⟩
  generalize t.heap = H at hP9 hS9 ⊢
  generalize [] ++ L9 = locs at hS9 ⊢
  have hP : va_P D xm_cl [xj_li a (.ref q) (nI k) mo, xj_at b g k f, xj_at q g (k + k / 2) (va_cpy f (fun _ => none) 0 0 k)] H := hP9
  have hD : va_D A [xj_li a (.ref q) (nI k) mo, xj_at b g k f, xj_at q g (k + k / 2) (va_cpy f (fun _ => none) 0 0 k)] := hD9
  have hS := hS9
  refine lv_astore_n (x := q) (lv' := [(2, .ref q), (0, .ref a), (1, .ref x), (3, .int (nI k))]) hx hb jd_ad3_10 rfl hl (by decide) rfl (fun ls hl => ?_)
  refine lv_aload_n hx hb jd_ad3_11 rfl (lv_at hl 0 rfl) ?_
  refine lv_iload_n hx hb jd_ad3_12 rfl (lv_at hl 3 rfl) ?_
  refine lv_aload_n hx hb jd_ad3_13 rfl (lv_at hl 2 rfl) ?_
  refine va_astqM hx hb hK hP hD hS 2 3 rfl rfl (xj_any_S hany hxA hS) (vp_in_nI (by omega) (by omega)) jd_ad3_14 (fun H locs hP hD hS => ?_)
  rw [nI_clamp (by omega)] at hP hD
  have hP : va_P D xm_cl [xj_li a (.ref q) (nI k) mo, xj_at b g k f, xj_at q g (k + k / 2) (va_up (va_cpy f (fun _ => none) 0 0 k) k (some x))] H := hP
  have hD : va_D A [xj_li a (.ref q) (nI k) mo, xj_at b g k f, xj_at q g (k + k / 2) (va_up (va_cpy f (fun _ => none) 0 0 k) k (some x))] := hD
  refine lv_aload_n hx hb jd_ad3_15 rfl (lv_at hl 1 rfl) ?_
  refine lv_iload_n hx hb jd_ad3_16 rfl (lv_at hl 3 rfl) ?_
  refine lv_iconst (v := 1) hx hb jd_ad3_17 (by decide) ?_
  refine lv_iadd hx hb jd_ad3_18 ?_
  rw [nI_1]
  refine xj_put (v := .int (nI (k + 1))) hx hb hts hown hK hP hD hS 0 rfl 1 (by decide) jf_sz (xj_same hts 1 (by decide)) xj_f1 (xj_n1 _).1 (xj_n1 _).2 (Nat.le_of_ble_eq_true rfl) jd_ad3_19 (fun H locs hP hD hS => ?_)
  have hP : va_P D xm_cl [xj_li a (.ref q) (nI (k + 1)) mo, xj_at b g k f, xj_at q g (k + k / 2) (va_up (va_cpy f (fun _ => none) 0 0 k) k (some x))] H := hP
  have hD : va_D A [xj_li a (.ref q) (nI (k + 1)) mo, xj_at b g k f, xj_at q g (k + k / 2) (va_up (va_cpy f (fun _ => none) 0 0 k) k (some x))] := hD
  refine W.widen (k := 1) (n := k + k / 2) (Nat.le_refl _) (by omega) ?_
  exact W.vret hx hb hr (fun t ht hW => ⟨q, rfl, by rw [ht]; exact hP, hD, hS.F ht⟩) hS.2.2 jd_ad3_22
set_option maxHeartbeats 4000000 in
set_option maxRecDepth 100000 in
theorem xj_ad3n (l : Launch) (D : va_G) (g : xm_G) (a : Nat) (mo : Int32) (sz base x : Nat) (hba : base ≤ a) (hbs : base ≤ sz) (hE : g.2.2.2.2 < base) (hxa : x ≠ a) : Met l jy_ad3 jw_ad3 { frames := 5, cells := 1, slots := 10, locals := 150 } (va_Pc [.ref a, .ref x, .ref g.2.2.2.2, .int (nI 0)] (fun U => va_K D xm_cl (xm_tys g) U ∧ va_P D xm_cl [xj_li a (.ref g.2.2.2.2) (nI 0) mo] U.heap ∧ va_D (fun _ => True) [xj_li a (.ref g.2.2.2.2) (nI 0) mo] ∧ U.heap.size = sz ∧ va_AO "java/lang/Object" U ∧ va_Z "java/util/ArrayList" "DEFAULTCAPACITY_EMPTY_ELEMENTDATA" "[Ljava/lang/Object;" (.ref g.2.2.2.2) (fun q => base ≤ q) U U.heap ∧ (∃ cell : Cell, U.heap[g.2.2.2.2]? = some cell ∧ U.isArrayOf cell (.object "java/lang/Object") ∧ cell.slots.size = 0) ∧ va_Any xj_ob U U.heap x)) (xj_QX D none (fun q => [xj_li a (.ref q) (nI (0 + 1)) mo, xj_at q g 10 (va_up (fun _ => none) 0 (some x))]) (va_A [xj_li a (.ref g.2.2.2.2) (nI 0) mo] sz)) 1 (10) (va_A [xj_li a (.ref g.2.2.2.2) (nI 0) mo] sz) := by
  refine Met.ofW (cc := jb_ad3) (maxL := 4) (ret := none) (by decide) rfl ?_
  intro p e s m args below meth c s₁ B hml hv
  obtain ⟨rfl, hK, hP, hD0, hsz, hAO, hZ, ⟨cell, c1, c2, c3⟩, hany⟩ := hv
  have hx := B.exec
  have hb := B.bytes
  have hr := B.returns
  have hts0 := atoms_spec (ws := jw_ad3) B.pre
  have hts : ∀ w ∈ xm_tb, w.before _ s = true := fun w h => hts0 w (List.mem_cons_of_mem _ h)
  have hown := findClass_of_methodNamed B.named
  have hlocks := B.notSynchronized
  subst hsz
  have hD := hD0.self (sz := s.heap.size)
  generalize hAe : va_A [xj_li a (.ref g.2.2.2.2) (nI 0) mo] s.heap.size = A at hD ⊢
  have hA : ∀ q : Nat, s.heap.size ≤ q → A q := fun q h => by rw [← hAe]; exact Or.inr h
  have hS : va_S A s.heap s.heap [] := va_S.rf
  have hP : va_P D xm_cl [xj_li a (.ref g.2.2.2.2) (nI 0) mo] s.heap := hP
  have hl := lv_entry ([.ref a, .ref x, .ref g.2.2.2.2, .int (nI 0)]) (n := 4) (Nat.le_of_ble_eq_true rfl)
  rw [lg_entry_eq]
  generalize (lg_sl ([.ref a, .ref x, .ref g.2.2.2.2, .int (nI 0)]) ++ List.replicate (4 - (lg_sl ([.ref a, .ref x, .ref g.2.2.2.2, .int (nI 0)])).length) Slot.unset).toArray = ls at hl ⊢
  have hl : lv_has ls 4 [(0, .ref a), (1, .ref x), (2, .ref g.2.2.2.2), (3, .int (nI 0))] := hl
  have hxA : ¬ A x := by rw [← hAe]; exact xj_notA1 hxa (xj_any_lt hany)
  refine lv_iload_n hx hb jd_ad3_0 rfl (lv_at hl 3 rfl) ?_
  refine lv_aload_n hx hb jd_ad3_1 rfl (lv_at hl 2 rfl) ?_
  refine W.alen (n := 0) hx hb c1 c2 (by rw [c3]; rfl) rfl rfl jd_ad3_2 ?_
  refine W.eq (g2 := F0 m 3 ls [.int 0, .int (nI 0)]) rfl ?_
  refine lv_icmp_ne (tgt := 11) hx hb jd_ad3_3 (by decide) (fun zz => absurd rfl zz) (fun _ => ?_)
  refine lv_aload_n hx hb jd_ad3_6 rfl (lv_at hl 0 rfl) ?_
  refine xm_goon (xj_runV (As := []) (rest := []) (b := a) hx hb hml hown hts (xj_gr0n l D g a mo s.heap.size base hba hbs hE) jg_gr0 jm_gr0 ji_gr0 jv_gr0 rfl jp_gr0 rfl rfl ⟨Nat.le_of_ble_eq_true rfl, Nat.le_of_ble_eq_true rfl⟩ (fun a U f mk h => ⟨h.1, va_K.moved (u := U) (U := U.calling f mk a) (Vm.Alike.refl U.vm) h.2.1, h.2.2.1, h.2.2.2.1, h.2.2.2.2.1, va_AO.moved (u := U) (U := U.calling f mk a) (Vm.Alike.refl U.vm) h.2.2.2.2.2.1, va_Z.moved (u := U) (U := U.calling f mk a) (Vm.Alike.refl U.vm) h.2.2.2.2.2.2.1, h.2.2.2.2.2.2.2⟩) (va_recv hK hP (ci := 12) (q := (xm_cn 12, (fun k => xm_fn 12 k), xm_nf 12)) (xm_cl_at 12 (by decide)) (q0 := 0) rfl) (fun U hU hW => ⟨rfl, va_K.moved hW.alike hK, by rw [hU]; exact hP, hD0, by rw [hU], hAO.moved hW.alike, by rw [hU]; exact hZ.moved hW.alike, ⟨cell, by rw [hU]; exact c1, State.isArrayOf_alike hW.alike c2, c3⟩⟩) hl.1 (Nat.zero_le _) jd_ad3_7 ⟨Nat.le_of_ble_eq_true rfl, Nat.le_of_ble_eq_true rfl⟩) (fun v9 st₀ t L9 h9 hal9 hL9 hq9 => ?_)
  obtain ⟨q, hv9, hP9, hD9, hF9⟩ := hq9
  cases hv9
  rw [hAe] at hD9 hF9 hL9
  have hS9 : va_S A s.heap t.heap ([] ++ L9) := ⟨by rw [← h9]; exact hF9.1, fun w w1 w2 => by rw [← h9] at w1 ⊢; exact hF9.2 w w1 w2, fun w hw => hL9 w (by simpa using hw)⟩
  generalize t.heap = H at hP9 hS9 ⊢
  generalize [] ++ L9 = locs at hS9 ⊢
  have hP : va_P D xm_cl [xj_li a (.ref q) (nI 0) mo, xj_at q g 10 (fun _ => none)] H := hP9
  have hD : va_D A [xj_li a (.ref q) (nI 0) mo, xj_at q g 10 (fun _ => none)] := hD9
  have hS := hS9
  refine lv_astore_n (x := q) (lv' := [(2, .ref q), (0, .ref a), (1, .ref x), (3, .int (nI 0))]) hx hb jd_ad3_10 rfl hl (by decide) rfl (fun ls hl => ?_)
  refine lv_aload_n hx hb jd_ad3_11 rfl (lv_at hl 0 rfl) ?_
  refine lv_iload_n hx hb jd_ad3_12 rfl (lv_at hl 3 rfl) ?_
  refine lv_aload_n hx hb jd_ad3_13 rfl (lv_at hl 2 rfl) ?_
  refine va_astqM hx hb hK hP hD hS 1 3 rfl rfl (xj_any_S hany hxA hS) (vp_in_nI (by omega) (by omega)) jd_ad3_14 (fun H locs hP hD hS => ?_)
  rw [nI_clamp (by omega)] at hP hD
  have hP : va_P D xm_cl [xj_li a (.ref q) (nI 0) mo, xj_at q g 10 (va_up (fun _ => none) 0 (some x))] H := hP
  have hD : va_D A [xj_li a (.ref q) (nI 0) mo, xj_at q g 10 (va_up (fun _ => none) 0 (some x))] := hD
  refine lv_aload_n hx hb jd_ad3_15 rfl (lv_at hl 1 rfl) ?_
  refine lv_iload_n hx hb jd_ad3_16 rfl (lv_at hl 3 rfl) ?_
  refine lv_iconst (v := 1) hx hb jd_ad3_17 (by decide) ?_
  refine lv_iadd hx hb jd_ad3_18 ?_
  rw [nI_1]
  refine xj_put (v := .int (nI (0 + 1))) hx hb hts hown hK hP hD hS 0 rfl 1 (by decide) jf_sz (xj_same hts 1 (by decide)) xj_f1 (xj_n1 _).1 (xj_n1 _).2 (Nat.le_of_ble_eq_true rfl) jd_ad3_19 (fun H locs hP hD hS => ?_)
  have hP : va_P D xm_cl [xj_li a (.ref q) (nI (0 + 1)) mo, xj_at q g 10 (va_up (fun _ => none) 0 (some x))] H := hP
  have hD : va_D A [xj_li a (.ref q) (nI (0 + 1)) mo, xj_at q g 10 (va_up (fun _ => none) 0 (some x))] := hD
  refine W.widen (k := 1) (n := 10) (Nat.le_refl _) (by omega) ?_
  exact W.vret hx hb hr (fun t ht hW => ⟨q, rfl, by rw [ht]; exact hP, hD, hS.F ht⟩) hS.2.2 jd_ad3_22
set_option maxHeartbeats 4000000 in
set_option maxRecDepth 100000 in
theorem xj_addr (l : Launch) (D : va_G) (g : xm_G) (a b : Nat) (mo : Int32) (k z sz x : Nat) (f : Nat → Option Nat) (hz : z < k) (hk : k ≤ 150000) (hxa : x ≠ a) (hxb : x ≠ b) : Met l jy_add jw_add { frames := 6, cells := 0, slots := 0, locals := 180 } (va_Pc [.ref a, .ref x] (fun U => va_K D xm_cl (xm_tys g) U ∧ va_P D xm_cl [xj_li a (.ref b) (nI z) mo, xj_at b g k f] U.heap ∧ va_D (fun _ => True) [xj_li a (.ref b) (nI z) mo, xj_at b g k f] ∧ U.heap.size = sz ∧ va_Any xj_ob U U.heap x)) (xj_QW D (some (.int 1)) [xj_li a (.ref b) (nI (z + 1)) (mo + 1), xj_at b g k (va_up f z (some x))] (va_A [xj_li a (.ref b) (nI z) mo, xj_at b g k f] sz)) 0 (0) (va_A [xj_li a (.ref b) (nI z) mo, xj_at b g k f] sz) := by
  refine Met.ofW (cc := jb_add) (maxL := 2) (ret := (some .boolean)) (by decide) rfl ?_
  intro p e s m args below meth c s₁ B hml hv
  obtain ⟨rfl, hK, hP, hD0, hsz, hany⟩ := hv
  have hx := B.exec
  have hb := B.bytes
  have hr := B.returns
  have hts0 := atoms_spec (ws := jw_add) B.pre
  have hts : ∀ w ∈ xm_tb, w.before _ s = true := fun w h => hts0 w (List.mem_cons_of_mem _ h)
  have hown := findClass_of_methodNamed B.named
  have hlocks := B.notSynchronized
  subst hsz
  have hD := hD0.self (sz := s.heap.size)
  generalize hAe : va_A [xj_li a (.ref b) (nI z) mo, xj_at b g k f] s.heap.size = A at hD ⊢
  have hA : ∀ q : Nat, s.heap.size ≤ q → A q := fun q h => by rw [← hAe]; exact Or.inr h
  have hS : va_S A s.heap s.heap [] := va_S.rf
  have hP : va_P D xm_cl [xj_li a (.ref b) (nI z) mo, xj_at b g k f] s.heap := hP
  have hl := lv_entry ([.ref a, .ref x]) (n := 2) (Nat.le_of_ble_eq_true rfl)
  rw [lg_entry_eq]
  generalize (lg_sl ([.ref a, .ref x]) ++ List.replicate (2 - (lg_sl ([.ref a, .ref x])).length) Slot.unset).toArray = ls at hl ⊢
  have hl : lv_has ls 2 [(0, .ref a), (1, .ref x)] := hl
  have hxA : ¬ A x := by rw [← hAe]; exact xj_notA hxa hxb (xj_any_lt hany)
  refine lv_aload_n hx hb jd_add_0 rfl (lv_at hl 0 rfl) ?_
  refine lv_dup hx hb jd_add_1 rfl ?_
  refine xj_get hx hb hts hown hK hP 0 rfl 2 (by decide) jf_mc rfl jd_add_2 ?_
  refine lv_iconst (v := 1) hx hb jd_add_5 (by decide) ?_
  refine lv_iadd hx hb jd_add_6 ?_
  refine xj_put (v := .int (mo + 1)) hx hb hts hown hK hP hD hS 0 rfl 2 (by decide) jf_mc (xj_same hts 2 (by decide)) xj_f2 (xj_n2 _).1 (xj_n2 _).2 (Nat.le_of_ble_eq_true rfl) jd_add_7 (fun H locs hP hD hS => ?_)
  have hP : va_P D xm_cl [xj_li a (.ref b) (nI z) (mo + 1), xj_at b g k f] H := hP
  have hD : va_D A [xj_li a (.ref b) (nI z) (mo + 1), xj_at b g k f] := hD
  refine lv_aload_n hx hb jd_add_10 rfl (lv_at hl 0 rfl) ?_
  refine lv_aload_n hx hb jd_add_11 rfl (lv_at hl 1 rfl) ?_
  refine lv_aload_n hx hb jd_add_12 rfl (lv_at hl 0 rfl) ?_
  refine xj_get hx hb hts hown hK hP 0 rfl 0 (by decide) jf_ed rfl jd_add_13 ?_
  refine lv_aload_n hx hb jd_add_16 rfl (lv_at hl 0 rfl) ?_
  refine xj_get hx hb hts hown hK hP 0 rfl 1 (by decide) jf_sz rfl jd_add_17 ?_
  have hFc := va_free (wc := [xj_li a (.ref b) (nI z) (mo + 1), xj_at b g k f]) hD hS hA [0, 1] rfl
  refine xm_goon (xj_runV (As := [.ref x, .ref b, .int (nI z)]) (rest := []) (b := a) hx hb hml hown hts (xj_ad3r l D g a b (mo + 1) k z _ x f hz hk hxa hxb) jg_ad3 jm_ad3 ji_ad3 jv_ad3 rfl jp_ad3 rfl rfl ⟨Nat.le_of_ble_eq_true rfl, Nat.le_of_ble_eq_true rfl⟩ (fun a U f mk h => ⟨h.1, va_K.moved (u := U) (U := U.calling f mk a) (Vm.Alike.refl U.vm) h.2.1, h.2.2⟩) (va_recv hK hP (ci := 12) (q := (xm_cn 12, (fun k => xm_fn 12 k), xm_nf 12)) (xm_cl_at 12 (by decide)) (q0 := 0) rfl) (fun U hU hW => ⟨rfl, va_K.moved hW.alike hK, by rw [hU]; exact hP, hD.weaken (fun _ _ _ _ => trivial), by rw [hU], by rw [hU]; exact xj_any_moved hW.alike (xj_any_S hany hxA hS)⟩) hl.1 (Nat.zero_le _) jd_add_20 ⟨Nat.zero_le _, Nat.zero_le _⟩) (fun v9 st₀ t L9 h9 hal9 hL9 hq9 => ?_)
  obtain ⟨hv9, hP9, hD9, hF9⟩ := hq9
  cases hv9
  have hS9 : va_S A s.heap t.heap (locs ++ L9) := ⟨Nat.le_trans hS.1 (by rw [← h9]; exact hF9.1), fun w w1 w2 => by
      have w3 : w < st₀.heap.size := by rw [h9]; exact Nat.lt_of_lt_of_le w1 hS.1
      rw [hF9.2 w w3 (fun y => w2 (hFc w y)), h9]
      exact hS.2.1 w w1 w2, fun w hw => by
      rcases List.mem_append.mp hw with hw | hw
      · exact hS.2.2 w hw
      · exact hFc _ (hL9 w hw)⟩
  have hD9 := hD9.weaken (fun _ w _ h => hFc w.1 h)
  refine W.eq (g2 := F0 m 23 ls []) rfl ?_
  refine lv_iconst (v := 1) hx hb jd_add_23 (by decide) ?_
  exact W.zret hx hb hr rfl (fun t2 ht hW => ⟨rfl, by rw [ht]; exact hP9, hD9, hS9.F ht⟩) hS9.2.2 jd_add_24
set_option maxHeartbeats 4000000 in
set_option maxRecDepth 100000 in
theorem xj_addf (l : Launch) (D : va_G) (g : xm_G) (a b : Nat) (mo : Int32) (k sz mi : Nat) (x : Nat) (f : Nat → Option Nat) (h10 : 10 ≤ k) (hk : k ≤ 100000) (hxa : x ≠ a) (hxb : x ≠ b) : Met l jy_add jw_add { frames := 6, cells := 1, slots := k + k / 2, locals := 180 } (va_Pc [.ref a, .ref x] (fun U => va_K D xm_cl (xm_tys g) U ∧ va_P D xm_cl [xj_li a (.ref b) (nI k) mo, xj_at b g k f] U.heap ∧ va_D (fun _ => True) [xj_li a (.ref b) (nI k) mo, xj_at b g k f] ∧ U.heap.size = sz ∧ va_AO "java/lang/Object" U ∧ va_Mi "[Ljava/lang/Object;" mi U ∧ va_Dc U ∧ xj_els U U.heap f k a b ∧ va_Any xj_ob U U.heap x)) (xj_QX D (some (.int 1)) (fun q => [xj_li a (.ref q) (nI (k + 1)) (mo + 1), xj_at b g k f, xj_at q g (k + k / 2) (va_up (va_cpy f (fun _ => none) 0 0 k) k (some x))]) (va_A [xj_li a (.ref b) (nI k) mo, xj_at b g k f] sz)) 1 (k + k / 2) (va_A [xj_li a (.ref b) (nI k) mo, xj_at b g k f] sz) := by
  refine Met.ofW (cc := jb_add) (maxL := 2) (ret := (some .boolean)) (by decide) rfl ?_
  intro p e s m args below meth c s₁ B hml hv
  obtain ⟨rfl, hK, hP, hD0, hsz, hAO, hMi, hDcl, hel, hany⟩ := hv
  have hx := B.exec
  have hb := B.bytes
  have hr := B.returns
  have hts0 := atoms_spec (ws := jw_add) B.pre
  have hts : ∀ w ∈ xm_tb, w.before _ s = true := fun w h => hts0 w (List.mem_cons_of_mem _ h)
  have hown := findClass_of_methodNamed B.named
  have hlocks := B.notSynchronized
  subst hsz
  have hD := hD0.self (sz := s.heap.size)
  generalize hAe : va_A [xj_li a (.ref b) (nI k) mo, xj_at b g k f] s.heap.size = A at hD ⊢
  have hA : ∀ q : Nat, s.heap.size ≤ q → A q := fun q h => by rw [← hAe]; exact Or.inr h
  have hS : va_S A s.heap s.heap [] := va_S.rf
  have hP : va_P D xm_cl [xj_li a (.ref b) (nI k) mo, xj_at b g k f] s.heap := hP
  have hl := lv_entry ([.ref a, .ref x]) (n := 2) (Nat.le_of_ble_eq_true rfl)
  rw [lg_entry_eq]
  generalize (lg_sl ([.ref a, .ref x]) ++ List.replicate (2 - (lg_sl ([.ref a, .ref x])).length) Slot.unset).toArray = ls at hl ⊢
  have hl : lv_has ls 2 [(0, .ref a), (1, .ref x)] := hl
  have hxA : ¬ A x := by rw [← hAe]; exact xj_notA hxa hxb (xj_any_lt hany)
  refine lv_aload_n hx hb jd_add_0 rfl (lv_at hl 0 rfl) ?_
  refine lv_dup hx hb jd_add_1 rfl ?_
  refine xj_get hx hb hts hown hK hP 0 rfl 2 (by decide) jf_mc rfl jd_add_2 ?_
  refine lv_iconst (v := 1) hx hb jd_add_5 (by decide) ?_
  refine lv_iadd hx hb jd_add_6 ?_
  refine xj_put (v := .int (mo + 1)) hx hb hts hown hK hP hD hS 0 rfl 2 (by decide) jf_mc (xj_same hts 2 (by decide)) xj_f2 (xj_n2 _).1 (xj_n2 _).2 (Nat.le_of_ble_eq_true rfl) jd_add_7 (fun H locs hP hD hS => ?_)
  have hP : va_P D xm_cl [xj_li a (.ref b) (nI k) (mo + 1), xj_at b g k f] H := hP
  have hD : va_D A [xj_li a (.ref b) (nI k) (mo + 1), xj_at b g k f] := hD
  refine lv_aload_n hx hb jd_add_10 rfl (lv_at hl 0 rfl) ?_
  refine lv_aload_n hx hb jd_add_11 rfl (lv_at hl 1 rfl) ?_
  refine lv_aload_n hx hb jd_add_12 rfl (lv_at hl 0 rfl) ?_
  refine xj_get hx hb hts hown hK hP 0 rfl 0 (by decide) jf_ed rfl jd_add_13 ?_
  refine lv_aload_n hx hb jd_add_16 rfl (lv_at hl 0 rfl) ?_
  refine xj_get hx hb hts hown hK hP 0 rfl 1 (by decide) jf_sz rfl jd_add_17 ?_
  have hFc := va_free (wc := [xj_li a (.ref b) (nI k) (mo + 1), xj_at b g k f]) hD hS hA [0, 1] rfl
  refine xm_goon (xj_runV (As := [.ref x, .ref b, .int (nI k)]) (rest := []) (b := a) hx hb hml hown hts (xj_ad3f l D g a b (mo + 1) k _ mi x f h10 hk hxa hxb) jg_ad3 jm_ad3 ji_ad3 jv_ad3 rfl jp_ad3 rfl rfl ⟨Nat.le_of_ble_eq_true rfl, Nat.le_of_ble_eq_true rfl⟩ (fun a U f mk h => ⟨h.1, va_K.moved (u := U) (U := U.calling f mk a) (Vm.Alike.refl U.vm) h.2.1, h.2.2.1, h.2.2.2.1, h.2.2.2.2.1, va_AO.moved (u := U) (U := U.calling f mk a) (Vm.Alike.refl U.vm) h.2.2.2.2.2.1, va_Mi.moved (u := U) (U := U.calling f mk a) (Vm.Alike.refl U.vm) h.2.2.2.2.2.2.1, va_Dc.moved (u := U) (U := U.calling f mk a) (Vm.Alike.refl U.vm) h.2.2.2.2.2.2.2.1, h.2.2.2.2.2.2.2.2⟩) (va_recv hK hP (ci := 12) (q := (xm_cn 12, (fun k => xm_fn 12 k), xm_nf 12)) (xm_cl_at 12 (by decide)) (q0 := 0) rfl) (fun U hU hW => ⟨rfl, va_K.moved hW.alike hK, by rw [hU]; exact hP, hD.weaken (fun _ _ _ _ => trivial), by rw [hU], hAO.moved hW.alike, hMi.moved hW.alike, hDcl.moved hW.alike, fun z y h1 h2 => ⟨by rw [hU]; exact xj_any_moved hW.alike (xj_any_S (hel z y h1 h2).1 (by rw [← hAe]; exact xj_notA (hel z y h1 h2).2.1 (hel z y h1 h2).2.2 (xj_any_lt (hel z y h1 h2).1)) hS), (hel z y h1 h2).2⟩, by rw [hU]; exact xj_any_moved hW.alike (xj_any_S hany hxA hS)⟩) hl.1 (Nat.zero_le _) jd_add_20 ⟨Nat.le_of_ble_eq_true rfl, show 0 + (k + k / 2) ≤ k + k / 2 by omega⟩) (fun v9 st₀ t L9 h9 hal9 hL9 hq9 => ?_)
  obtain ⟨q, hv9, hP9, hD9, hF9⟩ := hq9
  cases hv9
  have hS9 : va_S A s.heap t.heap (locs ++ L9) := ⟨Nat.le_trans hS.1 (by rw [← h9]; exact hF9.1), fun w w1 w2 => by
      have w3 : w < st₀.heap.size := by rw [h9]; exact Nat.lt_of_lt_of_le w1 hS.1
      rw [hF9.2 w w3 (fun y => w2 (hFc w y)), h9]
      exact hS.2.1 w w1 w2, fun w hw => by
      rcases List.mem_append.mp hw with hw | hw
      · exact hS.2.2 w hw
      · exact hFc _ (hL9 w hw)⟩
  have hD9 := hD9.weaken (fun _ w _ h => hFc w.1 h)
  refine W.eq (g2 := F0 m 23 ls []) rfl ?_
  refine lv_iconst (v := 1) hx hb jd_add_23 (by decide) ?_
  refine W.widen (k := 1) (n := k + k / 2) (Nat.le_refl _) (by omega) ?_
  exact W.zret hx hb hr rfl (fun t2 ht hW => ⟨q, rfl, by rw [ht]; exact hP9, hD9, hS9.F ht⟩) hS9.2.2 jd_add_24
set_option maxHeartbeats 4000000 in
set_option maxRecDepth 100000 in
theorem xj_addn (l : Launch) (D : va_G) (g : xm_G) (a : Nat) (mo : Int32) (sz base x : Nat) (hba : base ≤ a) (hbs : base ≤ sz) (hE : g.2.2.2.2 < base) (hxa : x ≠ a) : Met l jy_add jw_add { frames := 6, cells := 1, slots := 10, locals := 180 } (va_Pc [.ref a, .ref x] (fun U => va_K D xm_cl (xm_tys g) U ∧ va_P D xm_cl [xj_li a (.ref g.2.2.2.2) (nI 0) mo] U.heap ∧ va_D (fun _ => True) [xj_li a (.ref g.2.2.2.2) (nI 0) mo] ∧ U.heap.size = sz ∧ va_AO "java/lang/Object" U ∧ va_Z "java/util/ArrayList" "DEFAULTCAPACITY_EMPTY_ELEMENTDATA" "[Ljava/lang/Object;" (.ref g.2.2.2.2) (fun q => base ≤ q) U U.heap ∧ (∃ cell : Cell, U.heap[g.2.2.2.2]? = some cell ∧ U.isArrayOf cell (.object "java/lang/Object") ∧ cell.slots.size = 0) ∧ va_Any xj_ob U U.heap x)) (xj_QX D (some (.int 1)) (fun q => [xj_li a (.ref q) (nI (0 + 1)) (mo + 1), xj_at q g 10 (va_up (fun _ => none) 0 (some x))]) (va_A [xj_li a (.ref g.2.2.2.2) (nI 0) mo] sz)) 1 (10) (va_A [xj_li a (.ref g.2.2.2.2) (nI 0) mo] sz) := by
  refine Met.ofW (cc := jb_add) (maxL := 2) (ret := (some .boolean)) (by decide) rfl ?_
  intro p e s m args below meth c s₁ B hml hv
  obtain ⟨rfl, hK, hP, hD0, hsz, hAO, hZ, ⟨cell, c1, c2, c3⟩, hany⟩ := hv
  have hx := B.exec
  have hb := B.bytes
  have hr := B.returns
  have hts0 := atoms_spec (ws := jw_add) B.pre
  have hts : ∀ w ∈ xm_tb, w.before _ s = true := fun w h => hts0 w (List.mem_cons_of_mem _ h)
  have hown := findClass_of_methodNamed B.named
  have hlocks := B.notSynchronized
  subst hsz
  have hD := hD0.self (sz := s.heap.size)
  generalize hAe : va_A [xj_li a (.ref g.2.2.2.2) (nI 0) mo] s.heap.size = A at hD ⊢
  have hA : ∀ q : Nat, s.heap.size ≤ q → A q := fun q h => by rw [← hAe]; exact Or.inr h
  have hS : va_S A s.heap s.heap [] := va_S.rf
  have hP : va_P D xm_cl [xj_li a (.ref g.2.2.2.2) (nI 0) mo] s.heap := hP
  have hl := lv_entry ([.ref a, .ref x]) (n := 2) (Nat.le_of_ble_eq_true rfl)
  rw [lg_entry_eq]
  generalize (lg_sl ([.ref a, .ref x]) ++ List.replicate (2 - (lg_sl ([.ref a, .ref x])).length) Slot.unset).toArray = ls at hl ⊢
  have hl : lv_has ls 2 [(0, .ref a), (1, .ref x)] := hl
  have hxA : ¬ A x := by rw [← hAe]; exact xj_notA1 hxa (xj_any_lt hany)
  have hAb : ∀ q, A q → base ≤ q := by rw [← hAe]; exact xj_A1 hba hbs
  refine lv_aload_n hx hb jd_add_0 rfl (lv_at hl 0 rfl) ?_
  refine lv_dup hx hb jd_add_1 rfl ?_
  refine xj_get hx hb hts hown hK hP 0 rfl 2 (by decide) jf_mc rfl jd_add_2 ?_
  refine lv_iconst (v := 1) hx hb jd_add_5 (by decide) ?_
  refine lv_iadd hx hb jd_add_6 ?_
  refine xj_put (v := .int (mo + 1)) hx hb hts hown hK hP hD hS 0 rfl 2 (by decide) jf_mc (xj_same hts 2 (by decide)) xj_f2 (xj_n2 _).1 (xj_n2 _).2 (Nat.le_of_ble_eq_true rfl) jd_add_7 (fun H locs hP hD hS => ?_)
  have hP : va_P D xm_cl [xj_li a (.ref g.2.2.2.2) (nI 0) (mo + 1)] H := hP
  have hD : va_D A [xj_li a (.ref g.2.2.2.2) (nI 0) (mo + 1)] := hD
  refine lv_aload_n hx hb jd_add_10 rfl (lv_at hl 0 rfl) ?_
  refine lv_aload_n hx hb jd_add_11 rfl (lv_at hl 1 rfl) ?_
  refine lv_aload_n hx hb jd_add_12 rfl (lv_at hl 0 rfl) ?_
  refine xj_get hx hb hts hown hK hP 0 rfl 0 (by decide) jf_ed rfl jd_add_13 ?_
  refine lv_aload_n hx hb jd_add_16 rfl (lv_at hl 0 rfl) ?_
  refine xj_get hx hb hts hown hK hP 0 rfl 1 (by decide) jf_sz rfl jd_add_17 ?_
  have hFc := va_free (wc := [xj_li a (.ref g.2.2.2.2) (nI 0) (mo + 1)]) hD hS hA [0] rfl
  refine xm_goon (xj_runV (As := [.ref x, .ref g.2.2.2.2, .int (nI 0)]) (rest := []) (b := a) hx hb hml hown hts (xj_ad3n l D g a (mo + 1) _ base x hba (Nat.le_trans hbs hS.1) hE hxa) jg_ad3 jm_ad3 ji_ad3 jv_ad3 rfl jp_ad3 rfl rfl ⟨Nat.le_of_ble_eq_true rfl, Nat.le_of_ble_eq_true rfl⟩ (fun a U f mk h => ⟨h.1, va_K.moved (u := U) (U := U.calling f mk a) (Vm.Alike.refl U.vm) h.2.1, h.2.2.1, h.2.2.2.1, h.2.2.2.2.1, va_AO.moved (u := U) (U := U.calling f mk a) (Vm.Alike.refl U.vm) h.2.2.2.2.2.1, va_Z.moved (u := U) (U := U.calling f mk a) (Vm.Alike.refl U.vm) h.2.2.2.2.2.2.1, h.2.2.2.2.2.2.2⟩) (va_recv hK hP (ci := 12) (q := (xm_cn 12, (fun k => xm_fn 12 k), xm_nf 12)) (xm_cl_at 12 (by decide)) (q0 := 0) rfl) (fun U hU hW => ⟨rfl, va_K.moved hW.alike hK, by rw [hU]; exact hP, hD.weaken (fun _ _ _ _ => trivial), by rw [hU], hAO.moved hW.alike, by rw [hU]; exact (hZ.kept (fun w w1 w2 => hS.2.1 w w1 (fun y => w2 (hAb w y)))).moved hW.alike, ⟨cell, by rw [hU, hS.2.1 _ (Array.getElem?_eq_some_iff.mp c1).1 (fun y => absurd (hAb _ y) (by omega))]; exact c1, State.isArrayOf_alike hW.alike c2, c3⟩, by rw [hU]; exact xj_any_moved hW.alike (xj_any_S hany hxA hS)⟩) hl.1 (Nat.zero_le _) jd_add_20 ⟨Nat.le_of_ble_eq_true rfl, show 0 + (10) ≤ 10 by omega⟩) (fun v9 st₀ t L9 h9 hal9 hL9 hq9 => ?_)
  obtain ⟨q, hv9, hP9, hD9, hF9⟩ := hq9
  cases hv9
  have hS9 : va_S A s.heap t.heap (locs ++ L9) := ⟨Nat.le_trans hS.1 (by rw [← h9]; exact hF9.1), fun w w1 w2 => by
      have w3 : w < st₀.heap.size := by rw [h9]; exact Nat.lt_of_lt_of_le w1 hS.1
      rw [hF9.2 w w3 (fun y => w2 (hFc w y)), h9]
      exact hS.2.1 w w1 w2, fun w hw => by
      rcases List.mem_append.mp hw with hw | hw
      · exact hS.2.2 w hw
      · exact hFc _ (hL9 w hw)⟩
  have hD9 := hD9.weaken (fun _ w _ h => hFc w.1 h)
  refine W.eq (g2 := F0 m 23 ls []) rfl ?_
  refine lv_iconst (v := 1) hx hb jd_add_23 (by decide) ?_
  refine W.widen (k := 1) (n := 10) (Nat.le_refl _) (by omega) ?_
  exact W.zret hx hb hr rfl (fun t2 ht hW => ⟨q, rfl, by rw [ht]; exact hP9, hD9, hS9.F ht⟩) hS9.2.2 jd_add_24
