/-! ===== the lists' members as steps of the abstract machine ===== -/
def xm_jy (n : Nat) : MethodName := if n = 1000 then jy_ini else if n = 1001 then jy_add else if n = 1002 then jy_get else if n = 1003 then jy_set else if n = 1004 then jy_rem else if n = 1005 then jy_size else if n = 1006 then jy_emp else if n = 1007 then Lib.Math.abs.name else if n = 1008 then Lib.Math.min.name else objectInit
def xm_jv : List (Nat × Nat × Nat) := [(0, 71, 257296), (0, 80, 256288), (0, 223, 256544), (0, 441, 257552), (0, 582, 256816), (0, 586, 257056), (5, 68, 257296), (5, 72, 256544), (5, 76, 257056), (10, 16, 257296), (10, 20, 256544)]
def xm_jvp : List Nat := [126, 154, 222, 688, 745, 749, 641, 642, 643, 370, 371]
set_option maxRecDepth 100000 in
theorem xm_jv_in : ∀ q ∈ xm_jv, Cond.methodLink (xm_cn q.1) q.2.1 (xm_jy (q.2.2 / 256)) ∈ xm_tb := xm_all_pos (ps := xm_jvp) (f := fun (q : Nat × Nat × Nat) => Cond.methodLink (xm_cn q.1) q.2.1 (xm_jy (q.2.2 / 256))) (by decide +kernel) (by decide +kernel)
def xm_jp : List (Nat × Nat × Nat) := [(0, 1, 258320), (0, 9, 256016), (1, 3, 258320), (2, 3, 258320), (3, 1, 258320), (4, 1, 258320), (5, 3, 258320), (5, 33, 256016), (6, 3, 258320), (7, 3, 258320), (8, 1, 258320), (9, 1, 258320), (10, 1, 258320), (10, 9, 256016), (11, 1, 258320)]
def xm_jpp : List Nat := [27, 32, 915, 444, 778, 552, 291, 293, 393, 830, 245, 135, 61, 63, 1029]
set_option maxRecDepth 100000 in
theorem xm_jp_in : ∀ q ∈ xm_jp, Cond.methodLink (xm_cn q.1) q.2.1 (xm_jy (q.2.2 / 256)) ∈ xm_tb := xm_all_pos (ps := xm_jpp) (f := fun (q : Nat × Nat × Nat) => Cond.methodLink (xm_cn q.1) q.2.1 (xm_jy (q.2.2 / 256))) (by decide +kernel) (by decide +kernel)
def xm_js : List (Nat × Nat × Nat) := [(0, 578, 258080), (0, 472, 257808)]
def xm_jsp : List Nat := [740, 771]
set_option maxRecDepth 100000 in
theorem xm_js_in : ∀ q ∈ xm_js, Cond.methodLink (xm_cn q.1) q.2.1 (xm_jy (q.2.2 / 256)) ∈ xm_tb := xm_all_pos (ps := xm_jsp) (f := fun (q : Nat × Nat × Nat) => Cond.methodLink (xm_cn q.1) q.2.1 (xm_jy (q.2.2 / 256))) (by decide +kernel) (by decide +kernel)
set_option maxRecDepth 100000 in
theorem xm_jv_ok : (xm_mv.all fun q => decide (q.2.2 < 256000) || (xm_has xm_jv q.1 q.2.1 q.2.2 && decide (1001 ≤ q.2.2 / 256 ∧ q.2.2 / 256 ≤ 1006))) = true := by decide +kernel
theorem xm_jv_at {o j q : Nat} (h : xm_has xm_mv o j q = true) (hq : 256000 ≤ q) : Cond.methodLink (xm_cn o) j (xm_jy (q / 256)) ∈ xm_tb ∧ (1001 ≤ q / 256 ∧ q / 256 ≤ 1006) := by
  have h1 := List.all_eq_true.mp xm_jv_ok _ (xm_has_in h)
  rcases Bool.or_eq_true_iff.mp h1 with h1 | h1
  · exact absurd (of_decide_eq_true h1) (by simp only; omega)
  · obtain ⟨a, b⟩ := Bool.and_eq_true_iff.mp h1
    exact ⟨xm_jv_in _ (xm_has_in a), of_decide_eq_true b⟩
set_option maxRecDepth 100000 in
theorem xm_jp_ok : (xm_mp.all fun q => decide (q.2.2 < 256000) || (xm_has xm_jp q.1 q.2.1 q.2.2 && decide (q.2.2 / 256 = 1000 ∨ q.2.2 / 256 = 1009))) = true := by decide +kernel
theorem xm_jp_at {o j q : Nat} (h : xm_has xm_mp o j q = true) (hq : 256000 ≤ q) : Cond.methodLink (xm_cn o) j (xm_jy (q / 256)) ∈ xm_tb ∧ (q / 256 = 1000 ∨ q / 256 = 1009) := by
  have h1 := List.all_eq_true.mp xm_jp_ok _ (xm_has_in h)
  rcases Bool.or_eq_true_iff.mp h1 with h1 | h1
  · exact absurd (of_decide_eq_true h1) (by simp only; omega)
  · obtain ⟨a, b⟩ := Bool.and_eq_true_iff.mp h1
    exact ⟨xm_jp_in _ (xm_has_in a), of_decide_eq_true b⟩
set_option maxRecDepth 100000 in
theorem xm_js_ok : (xm_ms.all fun q => decide (q.2.2 < 256000) || (xm_has xm_js q.1 q.2.1 q.2.2 && decide (q.2.2 / 256 = 1007 ∨ q.2.2 / 256 = 1008))) = true := by decide +kernel
theorem xm_js_at {o j q : Nat} (h : xm_has xm_ms o j q = true) (hq : 256000 ≤ q) : Cond.methodLink (xm_cn o) j (xm_jy (q / 256)) ∈ xm_tb ∧ (q / 256 = 1007 ∨ q / 256 = 1008) := by
  have h1 := List.all_eq_true.mp xm_js_ok _ (xm_has_in h)
  rcases Bool.or_eq_true_iff.mp h1 with h1 | h1
  · exact absurd (of_decide_eq_true h1) (by simp only; omega)
  · obtain ⟨a, b⟩ := Bool.and_eq_true_iff.mp h1
    exact ⟨xm_js_in _ (xm_has_in a), of_decide_eq_true b⟩
theorem xm_ix_nI {i : Int32} {n j : Nat} (h : xm_ix i n = some j) (hn : n < 2 ^ 31) : i = nI j ∧ j < n := by
  obtain ⟨h1, h2, h3⟩ := xm_ix_lt h
  obtain ⟨q, hq, e⟩ := vp_in_of (x := i) (n := n) h3 hn
  rw [e, nI_clamp (by omega)] at h2
  rw [e, h2]
  exact ⟨rfl, hq⟩
section XMI
variable {p : Program} {l : Launch} {e : Env} {R : Room} {s : State} {m : MethodId} {args : Array Value} {below : List Frame} {meth : Method} {c : Code} {Q : State → Prop} {cc : ByteArray} {nL o : Nat} {D : va_G} {g : xm_G} {α : Nat → Nat → Nat} {base t0 : Nat} {pc : Nat} {L : xm_L} {st : List xm_V} {S : xm_S} {k jx : Nat}
theorem xm_i_size (C : xm_ctx p s m args c cc nL o) (E : xm_env D g α base s) (hfr : 10 ≤ R.frames) (hlo : 400 ≤ R.locals) (h8 : st.length ≤ 8) (hcells : xm_n S 0 100 - s.heap.size ≤ R.cells) (hslots : xm_n S 0 101 - t0 ≤ R.slots) (hd : decode cc pc = .ok (.invokevirtual jx, 3)) (hlk : Cond.methodLink (xm_cn o) jx jy_size ∈ xm_tb) (hk : k < xm_n S 0 12) (kk : xm_W p l e R s m args below meth c Q nL D g α base t0 (pc + 3) L (.inl (nI (xm_n S 1 k)) :: st) S) : xm_W p l e R s m args below meth c Q nL D g α base t0 pc L (.inr (some (12, k)) :: st) S := by
  intro H locs ls hR hS hl
  obtain ⟨hx, hb, hml, hown, hts⟩ := C
  obtain ⟨mo, ed, hob, -⟩ := xm_lst hR hk
  have hP := xm_lP1 hob
  exact xj_read (xj_runV (As := []) (rest := st.map (xm_conc α)) (b := α 12 k) hx hb hml hown hts (xj_size l D g (α 12 k) ed (nI (xm_n S 1 k)) mo) jg_size hlk ji_size jv_size rfl jp_size rfl rfl ⟨by simp only; omega, by simp only; omega⟩ (fun a U f mk h => ⟨h.1, va_K.moved (u := U) (U := U.calling f mk a) (Vm.Alike.refl U.vm) h.2.1, h.2.2⟩) (va_recv E.1 hP (ci := 12) (q := (xm_cn 12, (fun k => xm_fn 12 k), xm_nf 12)) (xm_cl_at 12 (by decide)) (q0 := 0) rfl) (fun U hU hW => ⟨rfl, va_K.moved hW.alike E.1, by rw [hU]; exact hP⟩) hl.1 (by rw [xm_cats]; exact h8) hd ⟨by omega, by omega⟩) (kk H locs ls hR hS hl)
theorem xm_i_emp (C : xm_ctx p s m args c cc nL o) (E : xm_env D g α base s) (hfr : 10 ≤ R.frames) (hlo : 400 ≤ R.locals) (h8 : st.length ≤ 8) (hcells : xm_n S 0 100 - s.heap.size ≤ R.cells) (hslots : xm_n S 0 101 - t0 ≤ R.slots) (hd : decode cc pc = .ok (.invokevirtual jx, 3)) (hlk : Cond.methodLink (xm_cn o) jx jy_emp ∈ xm_tb) (hk : k < xm_n S 0 12) (hsm : xm_n S 1 k < 2 ^ 31) (kk : xm_W p l e R s m args below meth c Q nL D g α base t0 (pc + 3) L (.inl (if xm_n S 1 k = 0 then 1 else 0) :: st) S) : xm_W p l e R s m args below meth c Q nL D g α base t0 pc L (.inr (some (12, k)) :: st) S := by
  intro H locs ls hR hS hl
  obtain ⟨hx, hb, hml, hown, hts⟩ := C
  obtain ⟨mo, ed, hob, -⟩ := xm_lst hR hk
  have hP := xm_lP1 hob
  have e1 : (if nI (xm_n S 1 k) = 0 then (1 : Int32) else 0) = if xm_n S 1 k = 0 then 1 else 0 := by
    by_cases hz : xm_n S 1 k = 0
    · rw [if_pos hz, hz, if_pos nI_0]
    · rw [if_neg hz, if_neg (nI_ne0 (by omega) hsm)]
  have kk2 := kk H locs ls hR hS hl
  rw [← e1] at kk2
  exact xj_read (xj_runV (As := []) (rest := st.map (xm_conc α)) (b := α 12 k) hx hb hml hown hts (xj_emp l D g (α 12 k) ed (nI (xm_n S 1 k)) mo) jg_emp hlk ji_emp jv_emp rfl jp_emp rfl rfl ⟨by simp only; omega, by simp only; omega⟩ (fun a U f mk h => ⟨h.1, va_K.moved (u := U) (U := U.calling f mk a) (Vm.Alike.refl U.vm) h.2.1, h.2.2⟩) (va_recv E.1 hP (ci := 12) (q := (xm_cn 12, (fun k => xm_fn 12 k), xm_nf 12)) (xm_cl_at 12 (by decide)) (q0 := 0) rfl) (fun U hU hW => ⟨rfl, va_K.moved hW.alike E.1, by rw [hU]; exact hP⟩) hl.1 (by rw [xm_cats]; exact h8) hd ⟨by omega, by omega⟩) kk2
theorem xm_i_get {i : Int32} {j : Nat} (C : xm_ctx p s m args c cc nL o) (E : xm_env D g α base s) (hfr : 10 ≤ R.frames) (hlo : 400 ≤ R.locals) (h8 : st.length ≤ 8) (hcells : xm_n S 0 100 - s.heap.size ≤ R.cells) (hslots : xm_n S 0 101 - t0 ≤ R.slots) (hd : decode cc pc = .ok (.invokevirtual jx, 3)) (hlk : Cond.methodLink (xm_cn o) jx jy_get ∈ xm_tb) (hk : k < xm_n S 0 12) (hj : xm_ix i (xm_n S 1 k) = some j) (kk : xm_W p l e R s m args below meth c Q nL D g α base t0 (pc + 3) L (.inr (some (xm_l S k j)) :: st) S) : xm_W p l e R s m args below meth c Q nL D g α base t0 pc L (.inl i :: .inr (some (12, k)) :: st) S := by
  intro H locs ls hR hS hl
  obtain ⟨hx, hb, hml, hown, hts⟩ := C
  obtain ⟨mo, ed, hob, hx3⟩ := xm_lst hR hk
  obtain ⟨j1, -, -⟩ := xm_ix_lt hj
  rcases hx3 with hx3 | hx3 | ⟨a1, a0, a2, a3, f, a4, a5⟩
  · omega
  · omega
  · subst a2
    obtain ⟨rfl, -⟩ := xm_ix_nI hj (by omega)
    have hP := xm_lP hob a4
    have ej : (nI j).toNatClampNeg = j := nI_clamp (by omega)
    exact xj_read (xj_runV (As := [.int (nI j)]) (rest := st.map (xm_conc α)) (b := α 12 k) hx hb hml hown hts (xj_getm l D g (α 12 k) (xm_a S 18 k) (nI (xm_n S 1 k)) mo (xm_n S 2 k) f (nI j) (vp_in_nI (by omega) (by omega)) (α (xm_l S k j).1 (xm_l S k j).2) (by rw [ej]; exact a5 j j1) (nI_pos (by omega)) (nI_lt j1 (by omega))) jg_get hlk ji_get jv_get rfl jp_get rfl rfl ⟨by simp only; omega, by simp only; omega⟩ (fun a U f mk h => ⟨h.1, va_K.moved (u := U) (U := U.calling f mk a) (Vm.Alike.refl U.vm) h.2.1, h.2.2⟩) (va_recv E.1 hP (ci := 12) (q := (xm_cn 12, (fun k => xm_fn 12 k), xm_nf 12)) (xm_cl_at 12 (by decide)) (q0 := 0) rfl) (fun U hU hW => ⟨rfl, va_K.moved hW.alike E.1, by rw [hU]; exact hP⟩) hl.1 (by rw [xm_cats]; exact h8) hd ⟨by omega, by omega⟩) (kk H locs ls hR hS hl)
end XMI
