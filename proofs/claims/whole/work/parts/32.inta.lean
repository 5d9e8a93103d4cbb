/-! ===== add as a step of the abstract machine ===== -/
theorem xm_gn (S : xm_S) (k N z y : Nat) (x : Nat × Nat) (p q : Nat) : xm_n (xm_sn (xm_sl (xm_grow k N S) k z x) 1 k y) p q = if p = 1 ∧ q = k then y else if p = 2 ∧ q = k then N else if p = 0 ∧ q = 100 then xm_n S 0 100 + 1 else if p = 0 ∧ q = 101 then xm_n S 0 101 + N else xm_n S p q := rfl
theorem xm_ga (S : xm_S) (k N z y : Nat) (x : Nat × Nat) (p q : Nat) : xm_a (xm_sn (xm_sl (xm_grow k N S) k z x) 1 k y) p q = if p = 18 ∧ q = k then xm_n S 0 100 else xm_a S p q := rfl
section XMI4
variable {p : Program} {l : Launch} {e : Env} {R : Room} {s : State} {m : MethodId} {args : Array Value} {below : List Frame} {meth : Method} {c : Code} {Q : State → Prop} {cc : ByteArray} {nL o : Nat} {D : va_G} {g : xm_G} {α : Nat → Nat → Nat} {base t0 : Nat} {pc : Nat} {L : xm_L} {st : List xm_V} {S : xm_S} {k jx : Nat}
theorem xm_i_addr {x : Nat × Nat} (C : xm_ctx p s m args c cc nL o) (E : xm_env D g α base s) (hfr : 10 ≤ R.frames) (hlo : 400 ≤ R.locals) (h8 : st.length ≤ 8) (hcells : xm_n S 0 100 - s.heap.size ≤ R.cells) (hslots : xm_n S 0 101 - t0 ≤ R.slots) (hd : decode cc pc = .ok (.invokevirtual jx, 3)) (hlk : Cond.methodLink (xm_cn o) jx jy_add ∈ xm_tb) (hk : k < xm_n S 0 12) (hx12 : x.1 < 12) (hxk : x.2 < xm_n S 0 x.1) (hz5 : xm_n S 1 k < 100000) (h2 : 2 ≤ xm_n S 2 k) (hlt : xm_n S 1 k ≠ xm_n S 2 k) (kk : xm_W p l e R s m args below meth c Q nL D g α base t0 (pc + 3) L (.inl 1 :: st) (xm_sn (xm_sl S k (xm_n S 1 k) x) 1 k (xm_n S 1 k + 1))) : xm_W p l e R s m args below meth c Q nL D g α base t0 pc L (.inr (some x) :: .inr (some (12, k)) :: st) S := by
  intro H locs ls hR hS hl
  obtain ⟨hx, hb, hml, hown, hts⟩ := C
  obtain ⟨mo, ed, hob, hx3⟩ := xm_lst hR hk
  have hzH := hR.1.1
  have hzb := hR.1.2
  have hge := hS.1
  have hka := hR.2.1 12 k (by decide) hk
  rcases hx3 with hx3 | hx3 | ⟨a1, a0, a2, a3, f, a4, a5⟩
  · omega
  · omega
  subst a2
  have hP := xm_lP hob a4
  have h4 := hR.2.2.2.1 k hk a1
  have hab : α 12 k ≠ xm_a S 18 k := fun z => h4.2.2.1 12 k (by decide) hk z.symm
  have hxa : α x.1 x.2 ≠ α 12 k := fun z => by have := (hR.2.2.1 x.1 x.2 12 k (by omega) (by decide) hxk hk z).1; omega
  have hany := xm_any E hR hx12 hxk
  have hxb : α x.1 x.2 ≠ xm_a S 18 k := fun z => h4.2.2.1 x.1 x.2 (by omega) hxk z.symm
  refine xm_goon (xj_runV (As := [.ref (α x.1 x.2)]) (rest := st.map (xm_conc α)) (b := α 12 k) hx hb hml hown hts (xj_addr l D g (α 12 k) (xm_a S 18 k) mo (xm_n S 2 k) (xm_n S 1 k) H.size (α x.1 x.2) f (by omega) a0 hxa hxb) jg_add hlk ji_add jv_add rfl jp_add rfl rfl ⟨by simp only; omega, by simp only; omega⟩ (fun a U f mk h => ⟨h.1, va_K.moved (u := U) (U := U.calling f mk a) (Vm.Alike.refl U.vm) h.2.1, h.2.2⟩) (va_recv E.1 hP (ci := 12) (q := (xm_cn 12, (fun k => xm_fn 12 k), xm_nf 12)) (xm_cl_at 12 (by decide)) (q0 := 0) rfl) (fun U hU hW => ⟨rfl, va_K.moved hW.alike E.1, by rw [hU]; exact hP, xm_D2 hab, by rw [hU], by rw [hU]; exact xj_any_moved hW.alike hany⟩) hl.1 (by rw [xm_cats]; exact h8) hd ⟨by omega, by omega⟩) (fun v9 st₀ t L9 h9 hal9 hL9 hq9 => ?_)
  obtain ⟨hv9, hP9, hD9, hF9⟩ := hq9
  cases hv9
  refine xj_sized (fun hsz9 => ?_)
  have hF1 := hF9.1
  rw [h9] at hF1
  have hzeq : t.heap.size = H.size := by omega
  have hA2 : ∀ q, va_A [xj_li (α 12 k) (.ref (xm_a S 18 k)) (nI (xm_n S 1 k)) mo, xj_at (xm_a S 18 k) g (xm_n S 2 k) f] H.size q → base ≤ q := xj_A2 hka.2.1 h4.1 hzb
  have hR' : xm_rel D g α base (xm_sn (xm_sl S k (xm_n S 1 k) x) 1 k (xm_n S 1 k + 1)) s t.heap := by
    refine hR.lst hk (fun _ _ => rfl) rfl rfl (fun _ _ _ => rfl) (fun p q hp hq => ?_) (fun q hq => ?_) (fun _ _ => rfl) (hzeq.trans hzH) (by omega) (fun q hq hqa hqb => ?_) ?_ (fun h10 => Or.inl ⟨rfl, a1⟩)
    · show xm_u2 (xm_n S) 1 k (xm_n S 1 k + 1) p q = _
      unfold xm_u2
      rw [if_neg (fun z => hq ⟨Or.inl z.1, z.2⟩)]
    · funext w
      show xm_u2 (xm_l S) k (xm_n S 1 k) x q w = _
      unfold xm_u2
      rw [if_neg (fun z => hq z.1)]
    · rw [hF9.2 q (by rw [h9]; exact hq) (xj_notA hqa (hqb a1) (by rw [h9] at *; exact hq)), h9]
    · have e1 : xm_n (xm_sn (xm_sl S k (xm_n S 1 k) x) 1 k (xm_n S 1 k + 1)) 1 k = xm_n S 1 k + 1 := by
        show xm_u2 _ 1 k _ 1 k = _
        unfold xm_u2
        rw [if_pos ⟨rfl, rfl⟩]
      unfold xm_lob
      rw [e1]
      refine ⟨mo + 1, .ref (xm_a S 18 k), xm_P_l hP9, Or.inr (Or.inr ⟨a1, a0, rfl, (show xm_n S 1 k + 1 ≤ xm_n S 2 k by omega), _, xm_P_a (i := 1) hP9 rfl, fun q hq => ?_⟩)⟩
      show va_up f (xm_n S 1 k) (some (α x.1 x.2)) q = some (α (xm_u2 (xm_l S) k (xm_n S 1 k) x k q).1 (xm_u2 (xm_l S) k (xm_n S 1 k) x k q).2)
      unfold va_up xm_u2
      by_cases hqj : q = xm_n S 1 k
      · rw [if_pos hqj, if_pos ⟨rfl, hqj⟩]
      · rw [if_neg hqj, if_neg (fun z => hqj z.2)]
        exact a5 q (by omega)
  have hS9 : va_S (fun q => base ≤ q) s.heap t.heap (locs ++ L9) := ⟨by omega, fun w w1 w2 => by
      have w3 : w < st₀.heap.size := by rw [h9]; omega
      rw [hF9.2 w w3 (fun y => w2 (hA2 w y)), h9]
      exact hS.2.1 w w1 w2, fun w hw => by
      rcases List.mem_append.mp hw with hw | hw
      · exact hS.2.2 w hw
      · exact hA2 _ (hL9 w hw)⟩
  exact kk t.heap (locs ++ L9) ls hR' hS9 hl
theorem xm_i_addf {x : Nat × Nat} (C : xm_ctx p s m args c cc nL o) (E : xm_env D g α base s) (hfr : 10 ≤ R.frames) (hlo : 400 ≤ R.locals) (h8 : st.length ≤ 8) (ht : t0 ≤ xm_n S 0 101) (hd : decode cc pc = .ok (.invokevirtual jx, 3)) (hlk : Cond.methodLink (xm_cn o) jx jy_add ∈ xm_tb) (hal : xm_al S) (hk : k < xm_n S 0 12) (hx12 : x.1 < 12) (hxk : x.2 < xm_n S 0 x.1) (hz5 : xm_n S 1 k < 100000) (h2 : 2 ≤ xm_n S 2 k) (heq : xm_n S 1 k = xm_n S 2 k) (hcells : xm_n S 0 100 + 1 - s.heap.size ≤ R.cells) (hslots : xm_n S 0 101 + (xm_n S 2 k + xm_n S 2 k / 2) - t0 ≤ R.slots) (kk : xm_W p l e R s m args below meth c Q nL D g α base t0 (pc + 3) L (.inl 1 :: st) (xm_sn (xm_sl (xm_grow k (xm_n S 2 k + xm_n S 2 k / 2) S) k (xm_n S 2 k) x) 1 k (xm_n S 2 k + 1))) : xm_W p l e R s m args below meth c Q nL D g α base t0 pc L (.inr (some x) :: .inr (some (12, k)) :: st) S := by
  intro H locs ls hR hS hl
  obtain ⟨hx, hb, hml, hown, hts⟩ := C
  obtain ⟨mo, ed, hob, hx3⟩ := xm_lst hR hk
  have hzH := hR.1.1
  have hzb := hR.1.2
  have hge := hS.1
  have hka := hR.2.1 12 k (by decide) hk
  rcases hx3 with hx3 | hx3 | ⟨a1, a0, a2, a3, f, a4, a5⟩
  · omega
  · omega
  subst a2
  have hP := xm_lP hob a4
  have h4 := hR.2.2.2.1 k hk a1
  have hab : α 12 k ≠ xm_a S 18 k := fun z => h4.2.2.1 12 k (by decide) hk z.symm
  have hxa : α x.1 x.2 ≠ α 12 k := fun z => by have := (hR.2.2.1 x.1 x.2 12 k (by omega) (by decide) hxk hk z).1; omega
  have hany := xm_any E hR hx12 hxk
  have hxb : α x.1 x.2 ≠ xm_a S 18 k := fun z => h4.2.2.1 x.1 x.2 (by omega) hxk z.symm
  have hel := xm_els E hR hal hk a1 a5
  rw [heq] at hP hel a5 hz5
  obtain ⟨⟨mi, hMi⟩, hDcl, -⟩ := E.2.2.2.2.2.1
  have hAO := E.2.1.2
  refine xm_goon (xj_runV (As := [.ref (α x.1 x.2)]) (rest := st.map (xm_conc α)) (b := α 12 k) hx hb hml hown hts (xj_addf l D g (α 12 k) (xm_a S 18 k) mo (xm_n S 2 k) H.size mi (α x.1 x.2) f a1 (by omega) hxa hxb) jg_add hlk ji_add jv_add rfl jp_add rfl rfl ⟨by simp only; omega, by simp only; omega⟩ (fun a U f mk h => ⟨h.1, va_K.moved (u := U) (U := U.calling f mk a) (Vm.Alike.refl U.vm) h.2.1, h.2.2.1, h.2.2.2.1, h.2.2.2.2.1, va_AO.moved (u := U) (U := U.calling f mk a) (Vm.Alike.refl U.vm) h.2.2.2.2.2.1, va_Mi.moved (u := U) (U := U.calling f mk a) (Vm.Alike.refl U.vm) h.2.2.2.2.2.2.1, va_Dc.moved (u := U) (U := U.calling f mk a) (Vm.Alike.refl U.vm) h.2.2.2.2.2.2.2.1, h.2.2.2.2.2.2.2.2⟩) (va_recv E.1 hP (ci := 12) (q := (xm_cn 12, (fun k => xm_fn 12 k), xm_nf 12)) (xm_cl_at 12 (by decide)) (q0 := 0) rfl) (fun U hU hW => ⟨rfl, va_K.moved hW.alike E.1, by rw [hU]; exact hP, xm_D2 hab, by rw [hU], hAO.moved hW.alike, hMi.moved hW.alike, hDcl.moved hW.alike, fun q y h1 h2 => ⟨by rw [hU]; exact xj_any_moved hW.alike (hel q y h1 h2).1, (hel q y h1 h2).2⟩, by rw [hU]; exact xj_any_moved hW.alike hany⟩) hl.1 (by rw [xm_cats]; exact h8) hd ⟨by omega, by omega⟩) (fun v9 st₀ t L9 h9 hal9 hL9 hq9 => ?_)
  obtain ⟨q, hv9, hP9, hD9, hF9⟩ := hq9
  cases hv9
  refine xj_sized (fun hsz9 => ?_)
  have hF1 := hF9.1
  rw [h9] at hF1
  have hql : q < t.heap.size := (hP9 2 _ rfl).lt
  have hqg : H.size ≤ q := by
    rcases hD9.2 2 _ rfl with ⟨k9, e9, hk9⟩ | h
    · match k9, hk9 with
      | 0, hk9 =>
        have e8 : α 12 k = q := congrArg Prod.fst (Option.some.inj hk9)
        exact absurd (hD9.1 0 2 _ _ rfl rfl e8) (by decide)
      | 1, hk9 =>
        have e8 : xm_a S 18 k = q := congrArg Prod.fst (Option.some.inj hk9)
        exact absurd (hD9.1 1 2 _ _ rfl rfl e8) (by decide)
      | k9 + 2, hk9 => simp at hk9
    · exact h
  have hzeq : t.heap.size = H.size + 1 := by omega
  have hqe : q = H.size := by omega
  have hA2 : ∀ q, va_A [xj_li (α 12 k) (.ref (xm_a S 18 k)) (nI (xm_n S 2 k)) mo, xj_at (xm_a S 18 k) g (xm_n S 2 k) f] H.size q → base ≤ q := xj_A2 hka.2.1 h4.1 hzb
  have n0 : ∀ c, c ≤ 17 → xm_n (xm_sn (xm_sl (xm_grow k (xm_n S 2 k + xm_n S 2 k / 2) S) k (xm_n S 2 k) x) 1 k ((xm_n S 2 k) + 1)) 0 c = xm_n S 0 c := fun c hc => by
    rw [xm_gn, if_neg (by omega), if_neg (by omega), if_neg (by omega), if_neg (by omega)]
  have n100 : xm_n (xm_sn (xm_sl (xm_grow k (xm_n S 2 k + xm_n S 2 k / 2) S) k (xm_n S 2 k) x) 1 k ((xm_n S 2 k) + 1)) 0 100 = xm_n S 0 100 + 1 := by
    rw [xm_gn, if_neg (by omega), if_neg (by omega), if_pos ⟨rfl, rfl⟩]
  have n101 : xm_n (xm_sn (xm_sl (xm_grow k (xm_n S 2 k + xm_n S 2 k / 2) S) k (xm_n S 2 k) x) 1 k ((xm_n S 2 k) + 1)) 0 101 = xm_n S 0 101 + (xm_n S 2 k + xm_n S 2 k / 2) := by
    rw [xm_gn, if_neg (by omega), if_neg (by omega), if_neg (by omega), if_pos ⟨rfl, rfl⟩]
  have n1 : xm_n (xm_sn (xm_sl (xm_grow k (xm_n S 2 k + xm_n S 2 k / 2) S) k (xm_n S 2 k) x) 1 k ((xm_n S 2 k) + 1)) 1 k = (xm_n S 2 k) + 1 := by
    rw [xm_gn, if_pos ⟨rfl, rfl⟩]
  have n2 : xm_n (xm_sn (xm_sl (xm_grow k (xm_n S 2 k + xm_n S 2 k / 2) S) k (xm_n S 2 k) x) 1 k ((xm_n S 2 k) + 1)) 2 k = xm_n S 2 k + xm_n S 2 k / 2 := by
    rw [xm_gn, if_neg (by omega), if_pos ⟨rfl, rfl⟩]
  have na : xm_a (xm_sn (xm_sl (xm_grow k (xm_n S 2 k + xm_n S 2 k / 2) S) k (xm_n S 2 k) x) 1 k ((xm_n S 2 k) + 1)) 18 k = xm_n S 0 100 := by
    rw [xm_ga, if_pos ⟨rfl, rfl⟩]
  have hR' : xm_rel D g α base (xm_sn (xm_sl (xm_grow k (xm_n S 2 k + xm_n S 2 k / 2) S) k (xm_n S 2 k) x) 1 k ((xm_n S 2 k) + 1)) s t.heap := by
    refine hR.lst hk n0 rfl rfl (fun c w hc => by rw [xm_ga, if_neg (by omega)]) (fun p w hp hw => ?_) (fun w hw => ?_) (fun w hw => by rw [xm_ga, if_neg (fun z => hw z.2)]) (by rw [n100]; omega) (by omega) (fun w hw hwa hwb => ?_) ?_ (fun h10 => Or.inr ⟨by rw [na]; omega, by omega⟩)
    · rw [xm_gn, if_neg (fun z => hw ⟨Or.inl z.1, z.2⟩), if_neg (fun z => hw ⟨Or.inr z.1, z.2⟩), if_neg (fun z => hp z.1), if_neg (fun z => hp z.1)]
    · funext w2
      show xm_u2 (xm_l S) k (xm_n S 2 k) x w w2 = _
      unfold xm_u2
      rw [if_neg (fun z => hw z.1)]
    · rw [hF9.2 w (by rw [h9]; exact hw) (xj_notA hwa (hwb a1) hw), h9]
    · unfold xm_lob
      rw [n1, n2, na]
      have hqe2 : xm_n S 0 100 = q := by omega
      rw [hqe2]
      refine ⟨mo + 1, .ref q, xm_P_l hP9, Or.inr (Or.inr ⟨by omega, by omega, rfl, by omega, _, xm_P_a (i := 2) hP9 rfl, fun w hw => ?_⟩)⟩
      show va_up (va_cpy f (fun _ => none) 0 0 (xm_n S 2 k)) (xm_n S 2 k) (some (α x.1 x.2)) w = some (α (xm_u2 (xm_l S) k (xm_n S 2 k) x k w).1 (xm_u2 (xm_l S) k (xm_n S 2 k) x k w).2)
      unfold va_up va_cpy xm_u2
      by_cases hqj : w = xm_n S 2 k
      · rw [if_pos hqj, if_pos (⟨rfl, hqj⟩ : k = k ∧ w = xm_n S 2 k)]
      · rw [if_neg hqj, if_neg (fun z : k = k ∧ w = xm_n S 2 k => hqj z.2), if_pos (⟨by omega, by omega⟩ : 0 ≤ w ∧ w < 0 + xm_n S 2 k), show 0 + (w - 0) = w by omega]
        exact a5 w (by omega)
  have hS9 : va_S (fun q => base ≤ q) s.heap t.heap (locs ++ L9) := ⟨by omega, fun w w1 w2 => by
      have w3 : w < st₀.heap.size := by rw [h9]; omega
      rw [hF9.2 w w3 (fun y => w2 (hA2 w y)), h9]
      exact hS.2.1 w w1 w2, fun w hw => by
      rcases List.mem_append.mp hw with hw | hw
      · exact hS.2.2 w hw
      · exact hA2 _ (hL9 w hw)⟩
  exact W.cs (by rw [n100]; omega) (by rw [n101]; omega) (kk t.heap (locs ++ L9) ls hR' hS9 hl)
theorem xm_i_addn {x : Nat × Nat} (C : xm_ctx p s m args c cc nL o) (E : xm_env D g α base s) (hfr : 10 ≤ R.frames) (hlo : 400 ≤ R.locals) (h8 : st.length ≤ 8) (ht : t0 ≤ xm_n S 0 101) (hd : decode cc pc = .ok (.invokevirtual jx, 3)) (hlk : Cond.methodLink (xm_cn o) jx jy_add ∈ xm_tb) (hk : k < xm_n S 0 12) (hx12 : x.1 < 12) (hxk : x.2 < xm_n S 0 x.1) (hz5 : xm_n S 1 k < 100000) (h1e : xm_n S 2 k = 1) (hcells : xm_n S 0 100 + 1 - s.heap.size ≤ R.cells) (hslots : xm_n S 0 101 + 10 - t0 ≤ R.slots) (kk : xm_W p l e R s m args below meth c Q nL D g α base t0 (pc + 3) L (.inl 1 :: st) (xm_sn (xm_sl (xm_grow k 10 S) k 0 x) 1 k (0 + 1))) : xm_W p l e R s m args below meth c Q nL D g α base t0 pc L (.inr (some x) :: .inr (some (12, k)) :: st) S := by
  intro H locs ls hR hS hl
  obtain ⟨hx, hb, hml, hown, hts⟩ := C
  obtain ⟨mo, ed, hob, hx3⟩ := xm_lst hR hk
  have hzH := hR.1.1
  have hzb := hR.1.2
  have hge := hS.1
  have hka := hR.2.1 12 k (by decide) hk
  have hx4 : ed = .ref g.2.2.2.2 ∧ xm_n S 1 k = 0 := by
    rcases hx3 with hx3 | hx3 | hx3
    · omega
    · exact ⟨hx3.2.1, hx3.2.2⟩
    · omega
  obtain ⟨a2, a3⟩ := hx4
  subst a2
  rw [a3] at hob
  have hP := xm_lP1 hob
  have hxa : α x.1 x.2 ≠ α 12 k := fun z => by have := (hR.2.2.1 x.1 x.2 12 k (by omega) (by decide) hxk hk z).1; omega
  have hany := xm_any E hR hx12 hxk
  obtain ⟨-, -, hZ, ⟨cell, c1, c2, c3⟩, hE⟩ := E.2.2.2.2.2.1
  have hAO := E.2.1.2
  have hce : H[g.2.2.2.2]? = some cell := by rw [hS.2.1 _ (Array.getElem?_eq_some_iff.mp c1).1 (by omega)]; exact c1
  refine xm_goon (xj_runV (As := [.ref (α x.1 x.2)]) (rest := st.map (xm_conc α)) (b := α 12 k) hx hb hml hown hts (xj_addn l D g (α 12 k) mo H.size base (α x.1 x.2) hka.2.1 hzb hE hxa) jg_add hlk ji_add jv_add rfl jp_add rfl rfl ⟨by simp only; omega, by simp only; omega⟩ (fun a U f mk h => ⟨h.1, va_K.moved (u := U) (U := U.calling f mk a) (Vm.Alike.refl U.vm) h.2.1, h.2.2.1, h.2.2.2.1, h.2.2.2.2.1, va_AO.moved (u := U) (U := U.calling f mk a) (Vm.Alike.refl U.vm) h.2.2.2.2.2.1, va_Z.moved (u := U) (U := U.calling f mk a) (Vm.Alike.refl U.vm) h.2.2.2.2.2.2.1, h.2.2.2.2.2.2.2⟩) (va_recv E.1 hP (ci := 12) (q := (xm_cn 12, (fun k => xm_fn 12 k), xm_nf 12)) (xm_cl_at 12 (by decide)) (q0 := 0) rfl) (fun U hU hW => ⟨rfl, va_K.moved hW.alike E.1, by rw [hU]; exact hP, xm_D1, by rw [hU], hAO.moved hW.alike, by rw [hU]; exact (hZ.kept (fun w w1 w2 => hS.2.1 w w1 w2)).moved hW.alike, ⟨cell, by rw [hU]; exact hce, State.isArrayOf_alike hW.alike c2, c3⟩, by rw [hU]; exact xj_any_moved hW.alike hany⟩) hl.1 (by rw [xm_cats]; exact h8) hd ⟨by omega, by omega⟩) (fun v9 st₀ t L9 h9 hal9 hL9 hq9 => ?_)
  obtain ⟨q, hv9, hP9, hD9, hF9⟩ := hq9
  cases hv9
  refine xj_sized (fun hsz9 => ?_)
  have hF1 := hF9.1
  rw [h9] at hF1
  have hql : q < t.heap.size := (hP9 1 _ rfl).lt
  have hqg : H.size ≤ q := by
    rcases hD9.2 1 _ rfl with ⟨k9, e9, hk9⟩ | h
    · match k9, hk9 with
      | 0, hk9 =>
        have e8 : α 12 k = q := congrArg Prod.fst (Option.some.inj hk9)
        exact absurd (hD9.1 0 1 _ _ rfl rfl e8) (by decide)
      | k9 + 1, hk9 => simp at hk9
    · exact h
  have hzeq : t.heap.size = H.size + 1 := by omega
  have hqe : q = H.size := by omega
  have hA2 : ∀ q, va_A [xj_li (α 12 k) (.ref g.2.2.2.2) (nI 0) mo] H.size q → base ≤ q := xj_A1 hka.2.1 hzb
  have n0 : ∀ c, c ≤ 17 → xm_n (xm_sn (xm_sl (xm_grow k (10) S) k 0 x) 1 k (0 + 1)) 0 c = xm_n S 0 c := fun c hc => by
    rw [xm_gn, if_neg (by omega), if_neg (by omega), if_neg (by omega), if_neg (by omega)]
  have n100 : xm_n (xm_sn (xm_sl (xm_grow k (10) S) k 0 x) 1 k (0 + 1)) 0 100 = xm_n S 0 100 + 1 := by
    rw [xm_gn, if_neg (by omega), if_neg (by omega), if_pos ⟨rfl, rfl⟩]
  have n101 : xm_n (xm_sn (xm_sl (xm_grow k (10) S) k 0 x) 1 k (0 + 1)) 0 101 = xm_n S 0 101 + (10) := by
    rw [xm_gn, if_neg (by omega), if_neg (by omega), if_neg (by omega), if_pos ⟨rfl, rfl⟩]
  have n1 : xm_n (xm_sn (xm_sl (xm_grow k (10) S) k 0 x) 1 k (0 + 1)) 1 k = 0 + 1 := by
    rw [xm_gn, if_pos ⟨rfl, rfl⟩]
  have n2 : xm_n (xm_sn (xm_sl (xm_grow k (10) S) k 0 x) 1 k (0 + 1)) 2 k = 10 := by
    rw [xm_gn, if_neg (by omega), if_pos ⟨rfl, rfl⟩]
  have na : xm_a (xm_sn (xm_sl (xm_grow k (10) S) k 0 x) 1 k (0 + 1)) 18 k = xm_n S 0 100 := by
    rw [xm_ga, if_pos ⟨rfl, rfl⟩]
  have hR' : xm_rel D g α base (xm_sn (xm_sl (xm_grow k (10) S) k 0 x) 1 k (0 + 1)) s t.heap := by
    refine hR.lst hk n0 rfl rfl (fun c w hc => by rw [xm_ga, if_neg (by omega)]) (fun p w hp hw => ?_) (fun w hw => ?_) (fun w hw => by rw [xm_ga, if_neg (fun z => hw z.2)]) (by rw [n100]; omega) (by omega) (fun w hw hwa hwb => ?_) ?_ (fun h10 => Or.inr ⟨by rw [na]; omega, by omega⟩)
    · rw [xm_gn, if_neg (fun z => hw ⟨Or.inl z.1, z.2⟩), if_neg (fun z => hw ⟨Or.inr z.1, z.2⟩), if_neg (fun z => hp z.1), if_neg (fun z => hp z.1)]
    · funext w2
      show xm_u2 (xm_l S) k 0 x w w2 = _
      unfold xm_u2
      rw [if_neg (fun z => hw z.1)]
    · rw [hF9.2 w (by rw [h9]; exact hw) (xj_notA1 hwa hw), h9]
    · unfold xm_lob
      rw [n1, n2, na]
      have hqe2 : xm_n S 0 100 = q := by omega
      rw [hqe2]
      refine ⟨mo + 1, .ref q, xm_P_l hP9, Or.inr (Or.inr ⟨by omega, by omega, rfl, by omega, _, xm_P_a (i := 1) hP9 rfl, fun w hw => ?_⟩)⟩
      have hw0 : w = 0 := by omega
      subst hw0
      show va_up (fun _ => none) 0 (some (α x.1 x.2)) 0 = some (α (xm_u2 (xm_l S) k 0 x k 0).1 (xm_u2 (xm_l S) k 0 x k 0).2)
      unfold va_up xm_u2
      rw [if_pos rfl, if_pos ⟨rfl, rfl⟩]
  have hS9 : va_S (fun q => base ≤ q) s.heap t.heap (locs ++ L9) := ⟨by omega, fun w w1 w2 => by
      have w3 : w < st₀.heap.size := by rw [h9]; omega
      rw [hF9.2 w w3 (fun y => w2 (hA2 w y)), h9]
      exact hS.2.1 w w1 w2, fun w hw => by
      rcases List.mem_append.mp hw with hw | hw
      · exact hS.2.2 w hw
      · exact hA2 _ (hL9 w hw)⟩
  exact W.cs (by rw [n100]; omega) (by rw [n101]; omega) (kk t.heap (locs ++ L9) ls hR' hS9 hl)
end XMI4
