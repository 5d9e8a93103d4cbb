/-! ===== the lists' members that write, as steps of the abstract machine ===== -/
theorem xm_any {D : va_G} {g : xm_G} {α : Nat → Nat → Nat} {base : Nat} {S : xm_S} {s : State} {H : Heap} {c k : Nat} (E : xm_env D g α base s) (hR : xm_rel D g α base S s H) (hc : c < 12) (hk : k < xm_n S 0 c) : va_Any xj_ob s H (α c k) := by
  have hob := hR.2.2.2.2.1 c k (by omega) hk
  unfold xm_obj at hob
  rw [if_pos hc] at hob
  obtain ⟨cell, q1, q2, q3, -⟩ := hob
  obtain ⟨-, hfc, kC, hkC, hkind⟩ := E.1.1 _ _ (xm_cl_at c (by omega))
  obtain ⟨c0, t1, f1, f2, f3⟩ := Cond.castable_spec (va_Nw.use (A := #[]) rfl (E.2.2.1 c hc))
  cases hfc.symm.trans f1
  exact ⟨cell, q1, by rw [q3]; rfl, ⟨kC, by rw [q2]; exact hkC⟩, fun comp h => by
    cases f2.symm.trans h
    rw [q2]
    exact f3⟩
section XMI2
variable {p : Program} {l : Launch} {e : Env} {R : Room} {s : State} {m : MethodId} {args : Array Value} {below : List Frame} {meth : Method} {c : Code} {Q : State → Prop} {cc : ByteArray} {nL o : Nat} {D : va_G} {g : xm_G} {α : Nat → Nat → Nat} {base t0 : Nat} {pc : Nat} {L : xm_L} {st : List xm_V} {S : xm_S} {k jx : Nat}
theorem xm_i_set {i : Int32} {j : Nat} {x : Nat × Nat} (C : xm_ctx p s m args c cc nL o) (E : xm_env D g α base s) (hfr : 10 ≤ R.frames) (hlo : 400 ≤ R.locals) (h8 : st.length ≤ 8) (hcells : xm_n S 0 100 - s.heap.size ≤ R.cells) (hslots : xm_n S 0 101 - t0 ≤ R.slots) (hd : decode cc pc = .ok (.invokevirtual jx, 3)) (hlk : Cond.methodLink (xm_cn o) jx jy_set ∈ xm_tb) (hk : k < xm_n S 0 12) (hj : xm_ix i (xm_n S 1 k) = some j) (hx12 : x.1 < 12) (hxk : x.2 < xm_n S 0 x.1) (kk : xm_W p l e R s m args below meth c Q nL D g α base t0 (pc + 3) L (.inr (some (xm_l S k j)) :: st) (xm_sl S k j x)) : xm_W p l e R s m args below meth c Q nL D g α base t0 pc L (.inr (some x) :: .inl i :: .inr (some (12, k)) :: st) S := by
  obtain ⟨j1, -, -⟩ := xm_ix_lt hj
  intro H locs ls hR hS hl
  obtain ⟨hx, hb, hml, hown, hts⟩ := C
  obtain ⟨mo, ed, hob, hx3⟩ := xm_lst hR hk
  have hzH := hR.1.1
  have hzb := hR.1.2
  have hge := hS.1
  have hka := hR.2.1 12 k (by decide) hk
  rcases hx3 with hx3 | hx3 | ⟨a1, a0, a2, a3, f, a4, a5⟩
  · omega
  · omega
  subst a2
  obtain ⟨rfl, -⟩ := xm_ix_nI hj (by omega)
  have ej : (nI j).toNatClampNeg = j := nI_clamp (by omega)
  have hP := xm_lP hob a4
  have h4 := hR.2.2.2.1 k hk a1
  have hab : α 12 k ≠ xm_a S 18 k := fun z => h4.2.2.1 12 k (by decide) hk z.symm
  have hfj := a5 j j1
  have hxa : α x.1 x.2 ≠ α 12 k := fun z => by have := (hR.2.2.1 x.1 x.2 12 k (by omega) (by decide) hxk hk z).1; omega
  have hxb : α x.1 x.2 ≠ xm_a S 18 k := fun z => h4.2.2.1 x.1 x.2 (by omega) hxk z.symm
  have hany := xm_any E hR hx12 hxk
  refine xm_goon (xj_runV (As := [.int (nI j), .ref (α x.1 x.2)]) (rest := st.map (xm_conc α)) (b := α 12 k) hx hb hml hown hts (xj_setm l D g (α 12 k) (xm_a S 18 k) (nI (xm_n S 1 k)) mo (xm_n S 2 k) f (nI j) (vp_in_nI (by omega) (by omega)) (α (xm_l S k j).1 (xm_l S k j).2) (by rw [ej]; exact hfj) (nI_pos (by omega)) (nI_lt j1 (by omega)) (α x.1 x.2) H.size hxa hxb) jg_set hlk ji_set jv_set rfl jp_set rfl rfl ⟨by simp only; omega, by simp only; omega⟩ (fun a U f mk h => ⟨h.1, va_K.moved (u := U) (U := U.calling f mk a) (Vm.Alike.refl U.vm) h.2.1, h.2.2⟩) (va_recv E.1 hP (ci := 12) (q := (xm_cn 12, (fun k => xm_fn 12 k), xm_nf 12)) (xm_cl_at 12 (by decide)) (q0 := 0) rfl) (fun U hU hW => ⟨rfl, va_K.moved hW.alike E.1, by rw [hU]; exact hP, xm_D2 hab, by rw [hU], by rw [hU]; exact xj_any_moved hW.alike hany⟩) hl.1 (by rw [xm_cats]; exact h8) hd ⟨by omega, by omega⟩) (fun v9 st₀ t L9 h9 hal9 hL9 hq9 => ?_)
  obtain ⟨hv9, hP9, hD9, hF9⟩ := hq9
  cases hv9
  refine xj_sized (fun hsz9 => ?_)
  have hF1 := hF9.1
  rw [h9] at hF1
  have hzeq : t.heap.size = H.size := by omega
  have hA2 : ∀ q, va_A [xj_li (α 12 k) (.ref (xm_a S 18 k)) (nI (xm_n S 1 k)) mo, xj_at (xm_a S 18 k) g (xm_n S 2 k) f] H.size q → base ≤ q := xj_A2 hka.2.1 h4.1 hzb
  have hR' : xm_rel D g α base (xm_sl S k j x) s t.heap := by
    refine hR.lst hk (fun _ _ => rfl) rfl rfl (fun _ _ _ => rfl) (fun p q hp hq => ?_) (fun q hq => ?_) (fun _ _ => rfl) (hzeq.trans hzH) (by omega) (fun q hq hqa hqb => ?_) ?_ (fun h10 => Or.inl ⟨rfl, a1⟩)
    · rfl
    · funext w; show xm_u2 (xm_l S) k j x q w = _; unfold xm_u2; rw [if_neg (fun z => hq z.1)]
    · rw [hF9.2 q (by rw [h9]; exact hq) (xj_notA hqa (hqb a1) (by rw [h9] at *; exact hq)), h9]
    · refine ⟨mo, .ref (xm_a S 18 k), xm_P_l hP9, Or.inr (Or.inr ⟨a1, a0, rfl, a3, _, xm_P_a (i := 1) hP9 rfl, fun q hq => ?_⟩)⟩
      show va_up f (nI j).toNatClampNeg (some (α x.1 x.2)) q = some (α (xm_u2 (xm_l S) k j x k q).1 (xm_u2 (xm_l S) k j x k q).2)
      rw [ej]
      unfold va_up xm_u2
      by_cases hqj : q = j
      · rw [if_pos hqj, if_pos ⟨rfl, hqj⟩]
      · rw [if_neg hqj, if_neg (fun z => hqj z.2)]
        exact a5 q hq
  have hS9 : va_S (fun q => base ≤ q) s.heap t.heap (locs ++ L9) := ⟨by omega, fun w w1 w2 => by
      have w3 : w < st₀.heap.size := by rw [h9]; omega
      rw [hF9.2 w w3 (fun y => w2 (hA2 w y)), h9]
      exact hS.2.1 w w1 w2, fun w hw => by
      rcases List.mem_append.mp hw with hw | hw
      · exact hS.2.2 w hw
      · exact hA2 _ (hL9 w hw)⟩
  exact kk t.heap (locs ++ L9) ls hR' hS9 hl
end XMI2
