/-! ===== remove, <init>, add as steps of the abstract machine ===== -/
theorem xm_els {D : va_G} {g : xm_G} {α : Nat → Nat → Nat} {base : Nat} {S : xm_S} {s : State} {H : Heap} {k : Nat} {f : Nat → Option Nat} (E : xm_env D g α base s) (hR : xm_rel D g α base S s H) (hal : xm_al S) (hk : k < xm_n S 0 12) (a1 : 10 ≤ xm_n S 2 k) (a5 : ∀ j, j < xm_n S 1 k → f j = some (α (xm_l S k j).1 (xm_l S k j).2)) : ∀ q y, q < xm_n S 1 k → f q = some y → va_Any xj_ob s H y ∧ y ≠ α 12 k ∧ y ≠ xm_a S 18 k := by
  intro q y hq hy
  rw [a5 q hq] at hy
  cases hy
  obtain ⟨b1, b2⟩ := hal.2.1 k q hk hq
  exact ⟨xm_any E hR b1 b2, fun z => by have := (hR.2.2.1 _ _ 12 k (by omega) (by decide) b2 hk z).1; omega, fun z => (hR.2.2.2.1 k hk a1).2.2.1 _ _ (by omega) b2 z.symm⟩
section XMI3
variable {p : Program} {l : Launch} {e : Env} {R : Room} {s : State} {m : MethodId} {args : Array Value} {below : List Frame} {meth : Method} {c : Code} {Q : State → Prop} {cc : ByteArray} {nL o : Nat} {D : va_G} {g : xm_G} {α : Nat → Nat → Nat} {base t0 : Nat} {pc : Nat} {L : xm_L} {st : List xm_V} {S : xm_S} {k jx : Nat}
theorem xm_i_rem {i : Int32} {j : Nat} (C : xm_ctx p s m args c cc nL o) (E : xm_env D g α base s) (hfr : 10 ≤ R.frames) (hlo : 400 ≤ R.locals) (h8 : st.length ≤ 8) (hcells : xm_n S 0 100 - s.heap.size ≤ R.cells) (hslots : xm_n S 0 101 - t0 ≤ R.slots) (hd : decode cc pc = .ok (.invokevirtual jx, 3)) (hlk : Cond.methodLink (xm_cn o) jx jy_rem ∈ xm_tb) (hal : xm_al S) (hk : k < xm_n S 0 12) (hj : xm_ix i (xm_n S 1 k) = some j) (kk : xm_W p l e R s m args below meth c Q nL D g α base t0 (pc + 3) L (.inr (some (xm_l S k j)) :: st) (xm_drop k j S)) : xm_W p l e R s m args below meth c Q nL D g α base t0 pc L (.inl i :: .inr (some (12, k)) :: st) S := by
  obtain ⟨j1, -, -⟩ := xm_ix_lt hj
  intro H locs ls hR hS hl
  obtain ⟨hx, hb, hml, hown, hts⟩ := C
  obtain ⟨mo, ed, hob, hx3⟩ := xm_lst hR hk
  have hzH := hR.1.1
  have hzb := hR.1.2
  have hge := hS.1
  have hka := hR.2.1 12 k (by decide) hk
  rcases hx3 with hx3 | hx3 | ⟨a1, a0, a2, a3, f, a4, a5⟩
  · omega
  · omega
  subst a2
  obtain ⟨rfl, -⟩ := xm_ix_nI hj (by omega)
  have ej : (nI j).toNatClampNeg = j := nI_clamp (by omega)
  have hP := xm_lP hob a4
  have h4 := hR.2.2.2.1 k hk a1
  have hab : α 12 k ≠ xm_a S 18 k := fun z => h4.2.2.1 12 k (by decide) hk z.symm
  have hfj := a5 j j1
  have hel := xm_els E hR hal hk a1 a5
  refine xm_goon (xj_runV (As := [.int (nI j)]) (rest := st.map (xm_conc α)) (b := α 12 k) hx hb hml hown hts (xj_remm l D g (α 12 k) (xm_a S 18 k) mo (xm_n S 2 k) f (xm_n S 1 k) j H.size j1 a3 a0 (α (xm_l S k j).1 (xm_l S k j).2) hfj) jg_rem hlk ji_rem jv_rem rfl jp_rem rfl rfl ⟨by simp only; omega, by simp only; omega⟩ (fun a U f mk h => ⟨h.1, va_K.moved (u := U) (U := U.calling f mk a) (Vm.Alike.refl U.vm) h.2.1, h.2.2⟩) (va_recv E.1 hP (ci := 12) (q := (xm_cn 12, (fun k => xm_fn 12 k), xm_nf 12)) (xm_cl_at 12 (by decide)) (q0 := 0) rfl) (fun U hU hW => ⟨rfl, va_K.moved hW.alike E.1, by rw [hU]; exact hP, xm_D2 hab, by rw [hU], fun q y h1 h2 => ⟨by rw [hU]; exact xj_any_moved hW.alike (hel q y h1 h2).1, (hel q y h1 h2).2⟩⟩) hl.1 (by rw [xm_cats]; exact h8) hd ⟨by omega, by omega⟩) (fun v9 st₀ t L9 h9 hal9 hL9 hq9 => ?_)
  obtain ⟨hv9, hP9, hD9, hF9⟩ := hq9
  cases hv9
  refine xj_sized (fun hsz9 => ?_)
  have hF1 := hF9.1
  rw [h9] at hF1
  have hzeq : t.heap.size = H.size := by omega
  have hA2 : ∀ q, va_A [xj_li (α 12 k) (.ref (xm_a S 18 k)) (nI (xm_n S 1 k)) mo, xj_at (xm_a S 18 k) g (xm_n S 2 k) f] H.size q → base ≤ q := xj_A2 hka.2.1 h4.1 hzb
  have hR' : xm_rel D g α base (xm_drop k j S) s t.heap := by
    refine hR.lst hk (fun _ _ => rfl) rfl rfl (fun _ _ _ => rfl) (fun p q hp hq => ?_) (fun q hq => ?_) (fun _ _ => rfl) (hzeq.trans hzH) (by omega) (fun q hq hqa hqb => ?_) ?_ (fun h10 => Or.inl ⟨rfl, a1⟩)
    · show xm_u2 (xm_n S) 1 k (xm_n S 1 k - 1) p q = _
      unfold xm_u2
      rw [if_neg (fun z => hq ⟨Or.inl z.1, z.2⟩)]
    · funext w
      show (if q = k ∧ j ≤ w then xm_l S k (w + 1) else xm_l S q w) = _
      rw [if_neg (fun z => hq z.1)]
    · rw [hF9.2 q (by rw [h9]; exact hq) (xj_notA hqa (hqb a1) (by rw [h9] at *; exact hq)), h9]
    · have e1 : xm_n (xm_drop k j S) 1 k = xm_n S 1 k - 1 := by
        show xm_u2 _ 1 k _ 1 k = _
        unfold xm_u2
        rw [if_pos ⟨rfl, rfl⟩]
      unfold xm_lob
      rw [e1]
      refine ⟨mo + 1, .ref (xm_a S 18 k), xm_P_l hP9, Or.inr (Or.inr ⟨a1, a0, rfl, (show xm_n S 1 k - 1 ≤ xm_n S 2 k by omega), _, xm_P_a (i := 1) hP9 rfl, fun q hq => ?_⟩)⟩
      show va_up (va_cpy f f (j + 1) j (xm_n S 1 k - 1 - j)) (xm_n S 1 k - 1) none q = some (α (if k = k ∧ j ≤ q then xm_l S k (q + 1) else xm_l S k q).1 (if k = k ∧ j ≤ q then xm_l S k (q + 1) else xm_l S k q).2)
      unfold va_up va_cpy
      rw [if_neg (by omega)]
      by_cases hjq : j ≤ q
      · rw [if_pos (⟨hjq, by omega⟩ : j ≤ q ∧ q < j + (xm_n S 1 k - 1 - j)), if_pos (⟨rfl, hjq⟩ : k = k ∧ j ≤ q), show j + 1 + (q - j) = q + 1 by omega]
        exact a5 (q + 1) (by omega)
      · rw [if_neg (fun w : j ≤ q ∧ q < j + (xm_n S 1 k - 1 - j) => hjq w.1), if_neg (fun w : k = k ∧ j ≤ q => hjq w.2)]
        exact a5 q (by omega)
  have hS9 : va_S (fun q => base ≤ q) s.heap t.heap (locs ++ L9) := ⟨by omega, fun w w1 w2 => by
      have w3 : w < st₀.heap.size := by rw [h9]; omega
      rw [hF9.2 w w3 (fun y => w2 (hA2 w y)), h9]
      exact hS.2.1 w w1 w2, fun w hw => by
      rcases List.mem_append.mp hw with hw | hw
      · exact hS.2.2 w hw
      · exact hA2 _ (hL9 w hw)⟩
  exact kk t.heap (locs ++ L9) ls hR' hS9 hl
theorem xm_i_ini (C : xm_ctx p s m args c cc nL o) (E : xm_env D g α base s) (hfr : 10 ≤ R.frames) (hlo : 400 ≤ R.locals) (h8 : st.length ≤ 8) (hcells : xm_n S 0 100 - s.heap.size ≤ R.cells) (hslots : xm_n S 0 101 - t0 ≤ R.slots) (hd : decode cc pc = .ok (.invokespecial jx, 3)) (hlk : Cond.methodLink (xm_cn o) jx jy_ini ∈ xm_tb) (hk : k < xm_n S 0 12) (h0 : xm_n S 2 k = 0) (kk : xm_W p l e R s m args below meth c Q nL D g α base t0 (pc + 3) L st (xm_sn S 2 k 1)) : xm_W p l e R s m args below meth c Q nL D g α base t0 pc L (.inr (some (12, k)) :: st) S := by
  intro H locs ls hR hS hl
  obtain ⟨hx, hb, hml, hown, hts⟩ := C
  obtain ⟨mo, ed, hob, hx3⟩ := xm_lst hR hk
  have hzH := hR.1.1
  have hzb := hR.1.2
  have hge := hS.1
  have hka := hR.2.1 12 k (by decide) hk
  rcases hx3 with ⟨a1, a2, a3⟩ | hx3 | ⟨hx3, -⟩
  · subst a2
    have hP := xm_lP1 hob
    have hZ := E.2.2.2.2.2.1.2.2.1
    refine xm_goon (xj_runI (rest := st.map (xm_conc α)) (b := α 12 k) hx hb hml hown hts (xj_ini l D g (α 12 k) .null (nI (xm_n S 1 k)) mo H.size base hka.2.1 hzb) jg_ini hlk ji_ini jn_al rfl jp_ini rfl rfl ⟨by simp only; omega, by simp only; omega⟩ (fun a U f mk h => ⟨h.1, va_K.moved (u := U) (U := U.calling f mk a) (Vm.Alike.refl U.vm) h.2.1, h.2.2.1, h.2.2.2.1, h.2.2.2.2.1, va_Z.moved (u := U) (U := U.calling f mk a) (Vm.Alike.refl U.vm) h.2.2.2.2.2⟩) (fun U hU hW => ⟨rfl, va_K.moved hW.alike E.1, by rw [hU]; exact hP, xm_D1, by rw [hU], by rw [hU]; exact (hZ.kept (fun w w1 w2 => hS.2.1 w w1 w2)).moved hW.alike⟩) hl.1 (by rw [xm_cats]; exact h8) hd ⟨by omega, by omega⟩) (fun v9 st₀ t L9 h9 hal9 hL9 hq9 => ?_)
    obtain ⟨hv9, hP9, hD9, hF9⟩ := hq9
    cases hv9
    refine xj_sized (fun hsz9 => ?_)
    have hF1 := hF9.1
    rw [h9] at hF1
    have hzeq : t.heap.size = H.size := by omega
    have hA2 : ∀ q, va_A [xj_li (α 12 k) .null (nI (xm_n S 1 k)) mo] H.size q → base ≤ q := xj_A1 hka.2.1 hzb
    have e2 : xm_n (xm_sn S 2 k 1) 2 k = 1 := by
      show xm_u2 _ 2 k _ 2 k = _
      unfold xm_u2
      rw [if_pos ⟨rfl, rfl⟩]
    have hR' : xm_rel D g α base (xm_sn S 2 k 1) s t.heap := by
      refine hR.lst hk (fun _ _ => rfl) rfl rfl (fun _ _ _ => rfl) (fun p q hp hq => ?_) (fun _ _ => rfl) (fun _ _ => rfl) (hzeq.trans hzH) (by omega) (fun q hq hqa hqb => ?_) ?_ (fun h10 => by rw [e2] at h10; omega)
      · show xm_u2 (xm_n S) 2 k 1 p q = _
        unfold xm_u2
        rw [if_neg (fun z => hq ⟨Or.inr z.1, z.2⟩)]
      · rw [hF9.2 q (by rw [h9]; exact hq) (xj_notA1 hqa hq), h9]
      · unfold xm_lob
        rw [e2]
        exact ⟨0, .ref g.2.2.2.2, xm_P_l hP9, Or.inr (Or.inl ⟨rfl, rfl, a3⟩)⟩
    have hS9 : va_S (fun q => base ≤ q) s.heap t.heap (locs ++ L9) := ⟨by omega, fun w w1 w2 => by
        have w3 : w < st₀.heap.size := by rw [h9]; omega
        rw [hF9.2 w w3 (fun y => w2 (hA2 w y)), h9]
        exact hS.2.1 w w1 w2, fun w hw => by
        rcases List.mem_append.mp hw with hw | hw
        · exact hS.2.2 w hw
        · exact hA2 _ (hL9 w hw)⟩
    exact kk t.heap (locs ++ L9) ls hR' hS9 hl
  · omega
  · omega
end XMI3
