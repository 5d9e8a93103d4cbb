/-! ===== the JDK's lists: grow and add ===== -/
theorem xj_A2 {a b sz base : Nat} {e1 e2 : va_E} (h1 : base ≤ a) (h1b : base ≤ b) (h2 : base ≤ sz) : ∀ q, va_A [(a, e1), (b, e2)] sz q → base ≤ q := by
  intro q h
  rcases h with ⟨k, e, hk⟩ | h
  · match k, hk with
    | 0, hk => have e9 : a = q := congrArg Prod.fst (Option.some.inj hk); omega
    | 1, hk => have e9 : b = q := congrArg Prod.fst (Option.some.inj hk); omega
    | k + 2, hk => simp at hk
  · omega
set_option maxHeartbeats 4000000 in
set_option maxRecDepth 100000 in
theorem xj_gr1 (l : Launch) (D : va_G) (g : xm_G) (a b : Nat) (mo : Int32) (k sz mi : Nat) (f : Nat → Option Nat) (h10 : 10 ≤ k) (hk : k ≤ 100000) : Met l jy_gr1 jw_gr1 { frames := 3, cells := 1, slots := k + k / 2, locals := 100 } (va_Pc [.ref a, .int (nI (k + 1))] (fun U => va_K D xm_cl (xm_tys g) U ∧ va_P D xm_cl [xj_li a (.ref b) (nI k) mo, xj_at b g k f] U.heap ∧ va_D (fun _ => True) [xj_li a (.ref b) (nI k) mo, xj_at b g k f] ∧ U.heap.size = sz ∧ va_AO "java/lang/Object" U ∧ va_Mi "[Ljava/lang/Object;" mi U ∧ va_Dc U ∧ xj_els U U.heap f k a b)) (xj_QG D (fun q => [xj_li a (.ref q) (nI k) mo, xj_at b g k f, xj_at q g (k + k / 2) (va_cpy f (fun _ => none) 0 0 k)]) (va_A [xj_li a (.ref b) (nI k) mo, xj_at b g k f] sz)) 1 (k + k / 2) (va_A [xj_li a (.ref b) (nI k) mo, xj_at b g k f] sz) := by
  refine Met.ofW (cc := jb_gr1) (maxL := 4) (ret := (some (.array (.object "java/lang/Object")))) (by decide) rfl ?_
  intro p e s m args below meth c s₁ B hml hv
  obtain ⟨rfl, hK, hP, hD0, hsz, hAO, hMi, hDcl, hel⟩ := hv
  have hx := B.exec
  have hb := B.bytes
  have hr := B.returns
  have hts0 := atoms_spec (ws := jw_gr1) B.pre
  have hts : ∀ w ∈ xm_tb, w.before _ s = true := fun w h => hts0 w (List.mem_cons_of_mem _ h)
  have hown := findClass_of_methodNamed B.named
  have hlocks := B.notSynchronized
  subst hsz
  have hD := hD0.self (sz := s.heap.size)
  generalize hAe : va_A [xj_li a (.ref b) (nI k) mo, xj_at b g k f] s.heap.size = A at hD ⊢
  have hA : ∀ q : Nat, s.heap.size ≤ q → A q := fun q h => by rw [← hAe]; exact Or.inr h
  have hS : va_S A s.heap s.heap [] := va_S.rf
  have hP : va_P D xm_cl [xj_li a (.ref b) (nI k) mo, xj_at b g k f] s.heap := hP
  have hl := lv_entry ([.ref a, .int (nI (k + 1))]) (n := 4) (Nat.le_of_ble_eq_true rfl)
  rw [lg_entry_eq]
  generalize (lg_sl ([.ref a, .int (nI (k + 1))]) ++ List.replicate (4 - (lg_sl ([.ref a, .int (nI (k + 1))])).length) Slot.unset).toArray = ls at hl ⊢
  have hl : lv_has ls 4 [(0, .ref a), (1, .int (nI (k + 1)))] := hl
  refine lv_aload_n hx hb jd_gr1_0 rfl (lv_at hl 0 rfl) ?_
  refine xj_get hx hb hts hown hK hP 0 rfl 0 (by decide) jf_ed rfl jd_gr1_1 ?_
  refine va_alen (v := nI k) hx hb hK hP 1 3 rfl rfl rfl jd_gr1_4 ?_
  refine lv_istore_n (lv' := [(2, .int (nI k)), (0, .ref a), (1, .int (nI (k + 1)))]) hx hb jd_gr1_5 rfl hl (by decide) rfl (fun ls hl => ?_)
  refine lv_iload_n hx hb jd_gr1_6 rfl (lv_at hl 0 rfl) ?_
  refine lv_if_gt (tgt := 20) hx hb jd_gr1_7 (by decide) (fun _ => ?_) (fun zz => absurd (show (0 : Int32) < nI k from nI_lt (a := 0) (by omega) (by omega)) zz)
  refine lv_iload_n hx hb jd_gr1_20 rfl (lv_at hl 0 rfl) ?_
  refine lv_iload_n hx hb jd_gr1_21 rfl (lv_at hl 2 rfl) ?_
  refine lv_iload_n hx hb jd_gr1_22 rfl (lv_at hl 0 rfl) ?_
  refine lv_isub hx hb jd_gr1_23 ?_
  rw [pk_sub (by omega), show k + 1 - k = 1 by omega]
  refine lv_iload_n hx hb jd_gr1_24 rfl (lv_at hl 0 rfl) ?_
  refine lv_iconst (v := 1) hx hb jd_gr1_25 (by decide) ?_
  refine lv_ishr hx hb jd_gr1_26 ?_
  have esh : nI k >>> ((1 : Int32) &&& 31) = nI (k / 2) := by
    have h9 := pk_shrN (n := k) (by omega) ((1 : Int32) &&& 31) 1 (by decide)
    rw [Nat.pow_one] at h9
    exact h9
  rw [esh]
  refine xj_read (xj_runS (As := [.int (nI k), .int (nI 1), .int (nI (k / 2))]) (rest := []) hx hb hml hown hts (xj_nln l k (by omega) hk) jg_nln jm_nln js_nln jn_sup jp_nln rfl rfl ⟨Nat.le_of_ble_eq_true rfl, Nat.le_of_ble_eq_true rfl⟩ (fun _ _ _ _ h => h) (fun U _ _ => ⟨rfl, trivial⟩) hl.1 (Nat.zero_le _) jd_gr1_27 ⟨Nat.zero_le _, Nat.zero_le _⟩) ?_
  refine lv_istore_n (lv' := [(3, .int (nI (k + k / 2))), (2, .int (nI k)), (0, .ref a), (1, .int (nI (k + 1)))]) hx hb jd_gr1_30 rfl hl (by decide) rfl (fun ls hl => ?_)
  refine lv_aload_n hx hb jd_gr1_31 rfl (lv_at hl 2 rfl) ?_
  refine lv_aload_n hx hb jd_gr1_32 rfl (lv_at hl 2 rfl) ?_
  refine xj_get hx hb hts hown hK hP 0 rfl 0 (by decide) jf_ed rfl jd_gr1_33 ?_
  refine lv_iload_n hx hb jd_gr1_36 rfl (lv_at hl 0 rfl) ?_
  have hPc := hP.sub (ws' := [xj_at b g k f]) [1] rfl
  have hDc := hD0.sub (ws' := [xj_at b g k f]) [1] (by decide) rfl
  have hFc := va_free (wc := [xj_at b g k f]) hD hS hA [1] rfl
  refine xm_goon (xj_runS (As := [.ref b, .int (nI (k + k / 2))]) (rest := [.ref a]) hx hb hml hown hts (xj_cp2 l D g b k (k + k / 2) s.heap.size mi f (by omega) (by omega)) jg_cp2 jm_cp2 js_cp2 jn_arr jp_cp2 rfl rfl ⟨Nat.le_of_ble_eq_true rfl, Nat.le_of_ble_eq_true rfl⟩ (fun a U f mk h => ⟨h.1, va_K.moved (u := U) (U := U.calling f mk a) (Vm.Alike.refl U.vm) h.2.1, h.2.2.1, h.2.2.2.1, h.2.2.2.2.1, va_AO.moved (u := U) (U := U.calling f mk a) (Vm.Alike.refl U.vm) h.2.2.2.2.2.1, va_Mi.moved (u := U) (U := U.calling f mk a) (Vm.Alike.refl U.vm) h.2.2.2.2.2.2.1, va_Dc.moved (u := U) (U := U.calling f mk a) (Vm.Alike.refl U.vm) h.2.2.2.2.2.2.2.1, h.2.2.2.2.2.2.2.2⟩) (fun U hU hW => ⟨rfl, va_K.moved hW.alike hK, by rw [hU]; exact hPc, hDc, by rw [hU], hAO.moved hW.alike, hMi.moved hW.alike, hDcl.moved hW.alike, fun z y h1 h2 => ⟨by rw [hU]; exact xj_any_moved hW.alike (hel z y h1 h2).1, (hel z y h1 h2).2.2, (hel z y h1 h2).2.2⟩⟩) hl.1 (Nat.le_of_ble_eq_true rfl) jd_gr1_37 ⟨Nat.le_of_ble_eq_true rfl, show 0 + (k + k / 2) ≤ k + k / 2 by omega⟩) (fun v9 st₀ t L9 h9 hal9 hL9 hq9 => ?_)
  obtain ⟨q, hv9, hP9, hD9, hF9⟩ := hq9
  cases hv9
  obtain ⟨hPj, hDj⟩ := va_join (wr := [xj_li a (.ref b) (nI k) mo]) hP hD [1] [0] rfl rfl (by decide) (by decide) (fun z z1 z2 => by rw [← h9] at z1 ⊢; exact hF9.2 z z1 z2) hFc hP9 hD9
  have hS9 : va_S A s.heap t.heap ([] ++ L9) := ⟨by rw [← h9]; exact hF9.1, fun z z1 z2 => by rw [← h9] at z1 ⊢; exact hF9.2 z z1 (fun w => z2 (hFc z w)), fun z hz => hFc _ (hL9 z (by simpa using hz))⟩
  refine lv_dup_x1 hx hb jd_gr1_40 rfl rfl ?_
  refine xj_put (v := .ref q) hx hb hts hown hK hPj hDj hS9 0 rfl 0 (by decide) jf_ed (xj_same hts 0 (by decide)) xj_f0 (xj_n0 _ (Or.inr ⟨_, rfl⟩)).1 (xj_n0 _ (Or.inr ⟨_, rfl⟩)).2 (Nat.le_of_ble_eq_true rfl) jd_gr1_41 (fun H locs hP hD hS => ?_)
  have hP : va_P D xm_cl [xj_li a (.ref q) (nI k) mo, xj_at b g k f, xj_at q g (k + k / 2) (va_cpy f (fun _ => none) 0 0 k)] H := hP
  have hD : va_D A [xj_li a (.ref q) (nI k) mo, xj_at b g k f, xj_at q g (k + k / 2) (va_cpy f (fun _ => none) 0 0 k)] := hD
  refine W.widen (k := 1) (n := k + k / 2) (Nat.le_refl _) (by omega) ?_
  exact W.aret hx hb hr (Or.inr ⟨_, rfl⟩) (Or.inr ⟨q, rfl⟩) (fun t ht hW => ⟨_, rfl, by rw [ht]; exact hP, hD, hS.F ht⟩) hS.2.2 jd_gr1_44
set_option maxHeartbeats 4000000 in
set_option maxRecDepth 100000 in
theorem xj_gr1n (l : Launch) (D : va_G) (g : xm_G) (a : Nat) (mo : Int32) (sz base : Nat) (hba : base ≤ a) (hbs : base ≤ sz) (hE : g.2.2.2.2 < base) : Met l jy_gr1 jw_gr1 { frames := 3, cells := 1, slots := 10, locals := 100 } (va_Pc [.ref a, .int (nI 1)] (fun U => va_K D xm_cl (xm_tys g) U ∧ va_P D xm_cl [xj_li a (.ref g.2.2.2.2) (nI 0) mo] U.heap ∧ va_D (fun _ => True) [xj_li a (.ref g.2.2.2.2) (nI 0) mo] ∧ U.heap.size = sz ∧ va_AO "java/lang/Object" U ∧ va_Z "java/util/ArrayList" "DEFAULTCAPACITY_EMPTY_ELEMENTDATA" "[Ljava/lang/Object;" (.ref g.2.2.2.2) (fun q => base ≤ q) U U.heap ∧ (∃ cell : Cell, U.heap[g.2.2.2.2]? = some cell ∧ U.isArrayOf cell (.object "java/lang/Object") ∧ cell.slots.size = 0))) (xj_QG D (fun q => [xj_li a (.ref q) (nI 0) mo, xj_at q g 10 (fun _ => none)]) (va_A [xj_li a (.ref g.2.2.2.2) (nI 0) mo] sz)) 1 10 (va_A [xj_li a (.ref g.2.2.2.2) (nI 0) mo] sz) := by
  refine Met.ofW (cc := jb_gr1) (maxL := 4) (ret := (some (.array (.object "java/lang/Object")))) (by decide) rfl ?_
  intro p e s m args below meth c s₁ B hml hv
  obtain ⟨rfl, hK, hP, hD0, hsz, hAO, hZ, ⟨cell, c1, c2, c3⟩⟩ := hv
  have hx := B.exec
  have hb := B.bytes
  have hr := B.returns
  have hts0 := atoms_spec (ws := jw_gr1) B.pre
  have hts : ∀ w ∈ xm_tb, w.before _ s = true := fun w h => hts0 w (List.mem_cons_of_mem _ h)
  have hown := findClass_of_methodNamed B.named
  have hlocks := B.notSynchronized
  subst hsz
  have hD := hD0.self (sz := s.heap.size)
  generalize hAe : va_A [xj_li a (.ref g.2.2.2.2) (nI 0) mo] s.heap.size = A at hD ⊢
  have hA : ∀ q : Nat, s.heap.size ≤ q → A q := fun q h => by rw [← hAe]; exact Or.inr h
  have hS : va_S A s.heap s.heap [] := va_S.rf
  have hP : va_P D xm_cl [xj_li a (.ref g.2.2.2.2) (nI 0) mo] s.heap := hP
  have hl := lv_entry ([.ref a, .int (nI 1)]) (n := 4) (Nat.le_of_ble_eq_true rfl)
  rw [lg_entry_eq]
  generalize (lg_sl ([.ref a, .int (nI 1)]) ++ List.replicate (4 - (lg_sl ([.ref a, .int (nI 1)])).length) Slot.unset).toArray = ls at hl ⊢
  have hl : lv_has ls 4 [(0, .ref a), (1, .int (nI 1))] := hl
  have hZ2 := hZ.narrow (B := A) (by rw [← hAe]; exact xj_A1 hba hbs)
  refine lv_aload_n hx hb jd_gr1_0 rfl (lv_at hl 0 rfl) ?_
  refine xj_get hx hb hts hown hK hP 0 rfl 0 (by decide) jf_ed rfl jd_gr1_1 ?_
  refine W.alen (n := 0) hx hb c1 c2 (by rw [c3]; rfl) rfl rfl jd_gr1_4 ?_
  refine W.eq (g2 := F0 m 5 ls [.int 0]) rfl ?_
  refine lv_istore_n (lv' := [(2, .int 0), (0, .ref a), (1, .int (nI 1))]) hx hb jd_gr1_5 rfl hl (by decide) rfl (fun ls hl => ?_)
  refine lv_iload_n hx hb jd_gr1_6 rfl (lv_at hl 0 rfl) ?_
  refine lv_if_gt (tgt := 20) hx hb jd_gr1_7 (by decide) (fun zz => absurd zz (by decide)) (fun _ => ?_)
  refine lv_aload_n hx hb jd_gr1_10 rfl (lv_at hl 1 rfl) ?_
  refine xj_get hx hb hts hown hK hP 0 rfl 0 (by decide) jf_ed rfl jd_gr1_11 ?_
  refine va_gets hx hb hZ2 hS hown (hts _ jf_de) (fun _ h => h) jd_gr1_14 ?_
  refine lv_acmp_eq (rx := some g.2.2.2.2) (ry := some g.2.2.2.2) (tgt := 45) hx hb jd_gr1_17 (by decide) (fun _ => ?_) (fun zz => absurd rfl zz)
  refine lv_aload_n hx hb jd_gr1_45 rfl (lv_at hl 1 rfl) ?_
  refine lv_bipush (v := 10) hx hb jd_gr1_46 (by decide) ?_
  refine lv_iload_n hx hb jd_gr1_48 rfl (lv_at hl 2 rfl) ?_
  refine va_mmax hx hb (by rw [hml]; exact hl.1.symm) hown (hts _ jm_max) (hts _ jzs_max) (hts _ jn_mat) (hts _ jz_max) (Nat.le_of_ble_eq_true rfl) (Nat.le_of_ble_eq_true rfl) (Nat.zero_le _) (Nat.zero_le _) jd_gr1_49 ?_
  rw [show (if (10 : Int32) < nI 1 then nI 1 else 10) = 10 by decide]
  refine va_newq (N' := 10) hx hb hown (hts _ jk_ob1) hAO hK hP hD hS hA (by decide) (by decide) (by decide) (Nat.le_of_ble_eq_true rfl) (Nat.le_of_ble_eq_true rfl) jd_gr1_52 (fun q cA H hK2 hP hD hS => ?_)
  have hcA : cA = g.2.2.2.1 := by
    obtain ⟨kA, comp, -, -, -, k4⟩ := (hK2.2 4 (cA, .object "java/lang/Object") rfl).2
    obtain ⟨kA2, comp2, -, -, -, k5⟩ := (hK.2 3 (g.2.2.2.1, .object "java/lang/Object") rfl).2
    exact Option.some.inj (k4.symm.trans k5)
  subst hcA
  have hP : va_P D xm_cl [xj_li a (.ref g.2.2.2.2) (nI 0) mo, xj_at q g 10 (fun _ => none)] H := hP
  have hD : va_D A [xj_li a (.ref g.2.2.2.2) (nI 0) mo, xj_at q g 10 (fun _ => none)] := hD
  refine lv_dup_x1 hx hb jd_gr1_55 rfl rfl ?_
  refine xj_put (v := .ref q) hx hb hts hown hK hP hD hS 0 rfl 0 (by decide) jf_ed (xj_same hts 0 (by decide)) xj_f0 (xj_n0 _ (Or.inr ⟨_, rfl⟩)).1 (xj_n0 _ (Or.inr ⟨_, rfl⟩)).2 (Nat.le_of_ble_eq_true rfl) jd_gr1_56 (fun H locs hP hD hS => ?_)
  have hP : va_P D xm_cl [xj_li a (.ref q) (nI 0) mo, xj_at q g 10 (fun _ => none)] H := hP
  have hD : va_D A [xj_li a (.ref q) (nI 0) mo, xj_at q g 10 (fun _ => none)] := hD
  refine W.widen (k := 1) (n := 10) (Nat.le_refl _) (Nat.le_refl _) ?_
  exact W.aret hx hb hr (Or.inr ⟨_, rfl⟩) (Or.inr ⟨q, rfl⟩) (fun t ht hW => ⟨_, rfl, by rw [ht]; exact hP, hD, hS.F ht⟩) hS.2.2 jd_gr1_59
set_option maxHeartbeats 4000000 in
set_option maxRecDepth 100000 in
theorem xj_gr0 (l : Launch) (D : va_G) (g : xm_G) (a b : Nat) (mo : Int32) (k sz mi : Nat) (f : Nat → Option Nat) (h10 : 10 ≤ k) (hk : k ≤ 100000) : Met l jy_gr0 jw_gr0 { frames := 4, cells := 1, slots := k + k / 2, locals := 125 } (va_Pc [.ref a] (fun U => va_K D xm_cl (xm_tys g) U ∧ va_P D xm_cl [xj_li a (.ref b) (nI k) mo, xj_at b g k f] U.heap ∧ va_D (fun _ => True) [xj_li a (.ref b) (nI k) mo, xj_at b g k f] ∧ U.heap.size = sz ∧ va_AO "java/lang/Object" U ∧ va_Mi "[Ljava/lang/Object;" mi U ∧ va_Dc U ∧ xj_els U U.heap f k a b)) (xj_QG D (fun q => [xj_li a (.ref q) (nI k) mo, xj_at b g k f, xj_at q g (k + k / 2) (va_cpy f (fun _ => none) 0 0 k)]) (va_A [xj_li a (.ref b) (nI k) mo, xj_at b g k f] sz)) 1 (k + k / 2) (va_A [xj_li a (.ref b) (nI k) mo, xj_at b g k f] sz) := by
  refine Met.ofW (cc := jb_gr0) (maxL := 1) (ret := (some (.array (.object "java/lang/Object")))) (by decide) rfl ?_
  intro p e s m args below meth c s₁ B hml hv
  obtain ⟨rfl, hK, hP, hD0, hsz, hAO, hMi, hDcl, hel⟩ := hv
  have hx := B.exec
  have hb := B.bytes
  have hr := B.returns
  have hts0 := atoms_spec (ws := jw_gr0) B.pre
  have hts : ∀ w ∈ xm_tb, w.before _ s = true := fun w h => hts0 w (List.mem_cons_of_mem _ h)
  have hown := findClass_of_methodNamed B.named
  have hlocks := B.notSynchronized
  subst hsz
  have hD := hD0.self (sz := s.heap.size)
  generalize hAe : va_A [xj_li a (.ref b) (nI k) mo, xj_at b g k f] s.heap.size = A at hD ⊢
  have hA : ∀ q : Nat, s.heap.size ≤ q → A q := fun q h => by rw [← hAe]; exact Or.inr h
  have hS : va_S A s.heap s.heap [] := va_S.rf
  have hP : va_P D xm_cl [xj_li a (.ref b) (nI k) mo, xj_at b g k f] s.heap := hP
  have hl := lv_entry ([.ref a]) (n := 1) (Nat.le_of_ble_eq_true rfl)
  rw [lg_entry_eq]
  generalize (lg_sl ([.ref a]) ++ List.replicate (1 - (lg_sl ([.ref a])).length) Slot.unset).toArray = ls at hl ⊢
  have hl : lv_has ls 1 [(0, .ref a)] := hl
  refine lv_aload_n hx hb jd_gr0_0 rfl (lv_at hl 0 rfl) ?_
  refine lv_aload_n hx hb jd_gr0_1 rfl (lv_at hl 0 rfl) ?_
  refine xj_get hx hb hts hown hK hP 0 rfl 1 (by decide) jf_sz rfl jd_gr0_2 ?_
  refine lv_iconst (v := 1) hx hb jd_gr0_5 (by decide) ?_
  refine lv_iadd hx hb jd_gr0_6 ?_
  rw [nI_1]
  refine xm_goon (xj_runV (As := [.int (nI (k + 1))]) (rest := []) (b := a) hx hb hml hown hts (xj_gr1 l D g a b mo k s.heap.size mi f h10 hk) jg_gr1 jm_gr1 ji_gr1 jv_gr1 rfl jp_gr1 rfl rfl ⟨Nat.le_of_ble_eq_true rfl, Nat.le_of_ble_eq_true rfl⟩ (fun a U f mk h => ⟨h.1, va_K.moved (u := U) (U := U.calling f mk a) (Vm.Alike.refl U.vm) h.2.1, h.2.2.1, h.2.2.2.1, h.2.2.2.2.1, va_AO.moved (u := U) (U := U.calling f mk a) (Vm.Alike.refl U.vm) h.2.2.2.2.2.1, va_Mi.moved (u := U) (U := U.calling f mk a) (Vm.Alike.refl U.vm) h.2.2.2.2.2.2.1, va_Dc.moved (u := U) (U := U.calling f mk a) (Vm.Alike.refl U.vm) h.2.2.2.2.2.2.2.1, h.2.2.2.2.2.2.2.2⟩) (va_recv hK hP (ci := 12) (q := (xm_cn 12, (fun k => xm_fn 12 k), xm_nf 12)) (xm_cl_at 12 (by decide)) (q0 := 0) rfl) (fun U hU hW => ⟨rfl, va_K.moved hW.alike hK, by rw [hU]; exact hP, hD0, by rw [hU], hAO.moved hW.alike, hMi.moved hW.alike, hDcl.moved hW.alike, fun z y h1 h2 => ⟨by rw [hU]; exact xj_any_moved hW.alike (hel z y h1 h2).1, (hel z y h1 h2).2⟩⟩) hl.1 (Nat.zero_le _) jd_gr0_7 ⟨Nat.le_of_ble_eq_true rfl, show 0 + (k + k / 2) ≤ k + k / 2 by omega⟩) (fun v9 st₀ t L9 h9 hal9 hL9 hq9 => ?_)
  obtain ⟨q, hv9, hP9, hD9, hF9⟩ := hq9
  cases hv9
  rw [hAe] at hD9 hF9 hL9
  refine W.widen (k := 1) (n := k + k / 2) (Nat.le_refl _) (by omega) ?_
  exact W.aret hx hb hr (Or.inr ⟨_, rfl⟩) (Or.inr ⟨q, rfl⟩) (fun t2 ht hW => ⟨q, rfl, by rw [ht]; exact hP9, hD9, by unfold va_F at hF9 ⊢; rw [ht, ← h9]; exact hF9⟩) (fun z hz => hL9 z (by simpa using hz)) jd_gr0_10
set_option maxHeartbeats 4000000 in
set_option maxRecDepth 100000 in
theorem xj_gr0n (l : Launch) (D : va_G) (g : xm_G) (a : Nat) (mo : Int32) (sz base : Nat) (hba : base ≤ a) (hbs : base ≤ sz) (hE : g.2.2.2.2 < base) : Met l jy_gr0 jw_gr0 { frames := 4, cells := 1, slots := 10, locals := 125 } (va_Pc [.ref a] (fun U => va_K D xm_cl (xm_tys g) U ∧ va_P D xm_cl [xj_li a (.ref g.2.2.2.2) (nI 0) mo] U.heap ∧ va_D (fun _ => True) [xj_li a (.ref g.2.2.2.2) (nI 0) mo] ∧ U.heap.size = sz ∧ va_AO "java/lang/Object" U ∧ va_Z "java/util/ArrayList" "DEFAULTCAPACITY_EMPTY_ELEMENTDATA" "[Ljava/lang/Object;" (.ref g.2.2.2.2) (fun q => base ≤ q) U U.heap ∧ (∃ cell : Cell, U.heap[g.2.2.2.2]? = some cell ∧ U.isArrayOf cell (.object "java/lang/Object") ∧ cell.slots.size = 0))) (xj_QG D (fun q => [xj_li a (.ref q) (nI 0) mo, xj_at q g 10 (fun _ => none)]) (va_A [xj_li a (.ref g.2.2.2.2) (nI 0) mo] sz)) 1 (10) (va_A [xj_li a (.ref g.2.2.2.2) (nI 0) mo] sz) := by
  refine Met.ofW (cc := jb_gr0) (maxL := 1) (ret := (some (.array (.object "java/lang/Object")))) (by decide) rfl ?_
  intro p e s m args below meth c s₁ B hml hv
  obtain ⟨rfl, hK, hP, hD0, hsz, hAO, hZ, ⟨cell, c1, c2, c3⟩⟩ := hv
  have hx := B.exec
  have hb := B.bytes
  have hr := B.returns
  have hts0 := atoms_spec (ws := jw_gr0) B.pre
  have hts : ∀ w ∈ xm_tb, w.before _ s = true := fun w h => hts0 w (List.mem_cons_of_mem _ h)
  have hown := findClass_of_methodNamed B.named
  have hlocks := B.notSynchronized
  subst hsz
  have hD := hD0.self (sz := s.heap.size)
  generalize hAe : va_A [xj_li a (.ref g.2.2.2.2) (nI 0) mo] s.heap.size = A at hD ⊢
  have hA : ∀ q : Nat, s.heap.size ≤ q → A q := fun q h => by rw [← hAe]; exact Or.inr h
  have hS : va_S A s.heap s.heap [] := va_S.rf
  have hP : va_P D xm_cl [xj_li a (.ref g.2.2.2.2) (nI 0) mo] s.heap := hP
  have hl := lv_entry ([.ref a]) (n := 1) (Nat.le_of_ble_eq_true rfl)
  rw [lg_entry_eq]
  generalize (lg_sl ([.ref a]) ++ List.replicate (1 - (lg_sl ([.ref a])).length) Slot.unset).toArray = ls at hl ⊢
  have hl : lv_has ls 1 [(0, .ref a)] := hl
  refine lv_aload_n hx hb jd_gr0_0 rfl (lv_at hl 0 rfl) ?_
  refine lv_aload_n hx hb jd_gr0_1 rfl (lv_at hl 0 rfl) ?_
  refine xj_get hx hb hts hown hK hP 0 rfl 1 (by decide) jf_sz rfl jd_gr0_2 ?_
  refine lv_iconst (v := 1) hx hb jd_gr0_5 (by decide) ?_
  refine lv_iadd hx hb jd_gr0_6 ?_
  rw [nI_1]
  refine xm_goon (xj_runV (As := [.int (nI (0 + 1))]) (rest := []) (b := a) hx hb hml hown hts (xj_gr1n l D g a mo s.heap.size base hba hbs hE) jg_gr1 jm_gr1 ji_gr1 jv_gr1 rfl jp_gr1 rfl rfl ⟨Nat.le_of_ble_eq_true rfl, Nat.le_of_ble_eq_true rfl⟩ (fun a U f mk h => ⟨h.1, va_K.moved (u := U) (U := U.calling f mk a) (Vm.Alike.refl U.vm) h.2.1, h.2.2.1, h.2.2.2.1, h.2.2.2.2.1, va_AO.moved (u := U) (U := U.calling f mk a) (Vm.Alike.refl U.vm) h.2.2.2.2.2.1, va_Z.moved (u := U) (U := U.calling f mk a) (Vm.Alike.refl U.vm) h.2.2.2.2.2.2.1, h.2.2.2.2.2.2.2⟩) (va_recv hK hP (ci := 12) (q := (xm_cn 12, (fun k => xm_fn 12 k), xm_nf 12)) (xm_cl_at 12 (by decide)) (q0 := 0) rfl) (fun U hU hW => ⟨rfl, va_K.moved hW.alike hK, by rw [hU]; exact hP, hD0, by rw [hU], hAO.moved hW.alike, by rw [hU]; exact hZ.moved hW.alike, ⟨cell, by rw [hU]; exact c1, State.isArrayOf_alike hW.alike c2, c3⟩⟩) hl.1 (Nat.zero_le _) jd_gr0_7 ⟨Nat.le_of_ble_eq_true rfl, Nat.le_of_ble_eq_true rfl⟩) (fun v9 st₀ t L9 h9 hal9 hL9 hq9 => ?_)
  obtain ⟨q, hv9, hP9, hD9, hF9⟩ := hq9
  cases hv9
  rw [hAe] at hD9 hF9 hL9
  refine W.widen (k := 1) (n := 10) (Nat.le_refl _) (by omega) ?_
  exact W.aret hx hb hr (Or.inr ⟨_, rfl⟩) (Or.inr ⟨q, rfl⟩) (fun t2 ht hW => ⟨q, rfl, by rw [ht]; exact hP9, hD9, by unfold va_F at hF9 ⊢; rw [ht, ← h9]; exact hF9⟩) (fun z hz => hL9 z (by simpa using hz)) jd_gr0_10
