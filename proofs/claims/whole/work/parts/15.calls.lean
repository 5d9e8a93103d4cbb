/-! ===== calls ===== -/
theorem xm_env.moved {D : va_G} {g : xm_G} {α : Nat → Nat → Nat} {base : Nat} {s U : State} (E : xm_env D g α base s) (hW : s.WarmedH U.vm) (hz : s.heap.size ≤ U.heap.size) (hk : ∀ q : Nat, q < s.heap.size → ¬ base ≤ q → U.heap[q]? = s.heap[q]?) : xm_env D g α base U := by
  obtain ⟨h1, ⟨h2, h3⟩, h4, h5, h6, ⟨⟨mi, h7⟩, h8, h9, ⟨cell, c1, c2, c3⟩, h10⟩, h11⟩ := E
  have hA := hW.alike
  refine ⟨h1.moved hA, ⟨h2.moved hA, h3.moved hA⟩, fun c hc => va_Nw.warmC hW (h4 c hc), va_Nw.warmM hW h5, fun k hk2 => ((h6 k hk2).kept hk).moved hA, ⟨⟨mi, h7.moved hA⟩, h8.moved hA, (h9.kept hk).moved hA, ⟨cell, ?_, State.isArrayOf_alike hA c2, c3⟩, h10⟩, Nat.le_trans h11 hz⟩
  rw [hk _ (Nat.lt_of_lt_of_le h10 h11) (by omega)]
  exact c1
def xm_rm (d mc ms : Nat) : Room := { frames := d + 10, cells := mc, slots := ms, locals := 40 * (d + 10) }
def xm_Pc (D : va_G) (g : xm_G) (α : Nat → Nat → Nat) (base : Nat) (as : List xm_V) (S : xm_S) : Array Value → State → Prop := va_Pc (as.map (xm_conc α)) (fun U => xm_env D g α base U ∧ xm_rel D g α base S U U.heap)
def xm_Qc (D : va_G) (g : xm_G) (α : Nat → Nat → Nat) (base : Nat) (r : Option xm_V) (S' : xm_S) : Array Value → State → Outcome → State → Prop := fun _ st oc t => oc = .returned (r.map (xm_conc α)) ∧ xm_rel D g α base S' t t.heap ∧ va_F (fun q => base ≤ q) st t
def xm_Met (l : Launch) (D : va_G) (g : xm_G) (α : Nat → Nat → Nat) (base d mj : Nat) (as : List xm_V) (S : xm_S) (r : Option xm_V) (S' : xm_S) : Prop :=
  Met l (xm_Y mj) (Cond.code (xm_Y mj) (xm_B mj) (xm_ML mj) (xm_rt mj) :: xm_tb) (xm_rm d (xm_n S' 0 100 - xm_n S 0 100) (xm_n S' 0 101 - xm_n S 0 101)) (xm_Pc D g α base as S) (xm_Qc D g α base r S') (xm_n S' 0 100 - xm_n S 0 100) (xm_n S' 0 101 - xm_n S 0 101) (fun q => base ≤ q)
theorem xm_blind (D : va_G) (g : xm_G) (α : Nat → Nat → Nat) (base : Nat) (as : List xm_V) (S : xm_S) : FrameBlind (xm_Pc D g α base as S) := fun a U f mk h => ⟨h.1, h.2.1.moved (U := U.calling f mk a) (State.WarmedH.refl U) (Nat.le_refl _) (fun _ _ _ => rfl), h.2.2.moved (U := U.calling f mk a) (Vm.Alike.refl U.vm)⟩
theorem xm_cats (α : Nat → Nat → Nat) (st : List xm_V) : ((st.map (xm_conc α)).map fun v => v.category).sum = st.length := by
  induction st with
  | nil => rfl
  | cons v t ih =>
    simp only [List.map_cons, List.sum_cons, List.length_cons, xm_conc_cat]
    rw [ih]
    omega
theorem xm_codeG {mj : Nat} (hj : mj < 182) : GoodIn xm_tb (Cond.code (xm_Y mj) (xm_B mj) (xm_ML mj) (xm_rt mj) :: xm_tb) := fun w h => by
  rcases List.mem_cons.mp h with rfl | h
  · exact xm_tb_good _ (xm_code_in mj hj)
  · exact xm_tb_good _ h
theorem xm_mf {mj : Nat} (hj : mj < 182) : (xm_Y mj).cls ≠ "java/lang/invoke/MethodHandle" ∧ (xm_Y mj).cls ≠ "java/lang/invoke/VarHandle" ∧ plainName (xm_Y mj).cls = true ∧ (xm_Y mj).cls = xm_cn (xm_ow mj) ∧ xm_ow mj < 12 ∧ xm_ML mj ≤ 11 ∧ xm_na mj ≤ xm_ML mj ∧ (parseMethodDescriptor (xm_Y mj).desc).map (fun d => d.parameters.length) = some (if xm_sm.contains mj then xm_na mj else xm_na mj - 1) := by
  have h := List.all_eq_true.mp xm_mfact_all mj (List.mem_range.mpr hj)
  unfold xm_mfact at h
  simp only [Bool.and_eq_true, decide_eq_true_eq] at h
  exact ⟨h.1, h.2.1, h.2.2.1, h.2.2.2.1, h.2.2.2.2.1, h.2.2.2.2.2.1, h.2.2.2.2.2.2.1, h.2.2.2.2.2.2.2⟩
set_option maxRecDepth 20000 in
theorem xm_ar0 {k d x : Nat} (h1 : k ≤ 11) (h2 : 40 * (d + 11) ≤ x) : 8 + (k + 11) + 40 * (d + 10) ≤ x := by
  rw [Nat.mul_add] at h2 ⊢
  omega
theorem xm_ar {k d x a b : Nat} (h1 : k ≤ 11) (h2 : 40 * (d + 11) ≤ x) : 8 + (k + 11) + (xm_rm d a b).locals ≤ x := by
  have e : (xm_rm d a b).locals = 40 * (d + 10) := rfl
  rw [e]
  exact xm_ar0 h1 h2
theorem xm_goon {p : Program} {l : Launch} {e : Env} {R : Room} {s : State} {m : MethodId} {args : Array Value} {below : List Frame} {meth : Method} {c : Code} {H : Heap} {locs : List Loc} {cells slots mc ms pc : Nat} {Q : State → Prop} {ls : Array Slot} {rest st0 : List Value} {Qa : State → Outcome → State → Prop} {free : Addr → Prop}
    (hr : va_Run p l e R s m args below meth c H locs cells slots mc ms (F0 m pc ls st0) rest Qa free) (kk : ∀ (v : Option Value) (st₀ t : State) (L : List Loc), st₀.heap = H → s.vm.Alike t.vm → (∀ q ∈ L, free q.base) → Qa st₀ (.returned v) t → W p l e R s m args below meth c t.heap (locs ++ L) (cells + mc) (slots + ms) Q (F0 m (pc + 3) ls (v.toList ++ rest))) : W p l e R s m args below meth c H locs cells slots Q (F0 m pc ls st0) := by
  intro T hT X
  obtain ⟨v, st₀, t, T', L, h0, X', hL, e1, e2, hq, st⟩ := hr T hT X
  obtain ⟨t2, a1, b1⟩ := kk v st₀ t L h0 (by rw [← e2]; exact X'.warmed.alike) hL hq T' e1 X'
  exact ⟨t2, st t2 a1, b1⟩
section XMC
variable {p : Program} {l : Launch} {e : Env} {R : Room} {s : State} {m : MethodId} {args : Array Value} {below : List Frame} {meth : Method} {c : Code} {Q : State → Prop} {cc : ByteArray} {nL o : Nat} {D : va_G} {g : xm_G} {α : Nat → Nat → Nat} {base t0 : Nat} {pc : Nat} {L : xm_L} {st : List xm_V} {S S1 : xm_S} {ini : Bool} {rt : Option FieldType} {raw : Instr} {len : Nat} {mj d : Nat} {as rest : List xm_V} {r : Option xm_V} {H : Heap} {locs : List Loc} {ls : Array Slot}
/-- behind a call -/
theorem xm_after (hle : xm_le S S1) (hR : xm_rel D g α base S s H) (hS : va_S (fun q => base ≤ q) s.heap H locs) (ht : t0 ≤ xm_n S 0 101) (hl : lv_has ls nL (xm_lvs α L)) (kk : xm_W p l e R s m args below meth c Q nL D g α base t0 (pc + 3) L (r.toList ++ rest) S1) :
    ∀ (v : Option Value) (st₀ t : State) (L' : List Loc), st₀.heap = H → s.vm.Alike t.vm → (∀ q ∈ L', base ≤ q.base) → xm_Qc D g α base r S1 #[] st₀ (.returned v) t → W p l e R s m args below meth c t.heap (locs ++ L') (xm_n S 0 100 - s.heap.size + (xm_n S1 0 100 - xm_n S 0 100)) (xm_n S 0 101 - t0 + (xm_n S1 0 101 - xm_n S 0 101)) Q (F0 m (pc + 3) ls (v.toList ++ rest.map (xm_conc α))) := by
  intro v st₀ t L' h0 hal hL' hq
  obtain ⟨hv, hr1, hF⟩ := hq
  have hv : v = r.map (xm_conc α) := Outcome.returned.inj hv
  subst hv
  have hsz := hR.1.1
  have h1 := hle.1 100
  have h2 := hle.1 101
  have h3 := hS.1
  rw [show xm_n S 0 100 - s.heap.size + (xm_n S1 0 100 - xm_n S 0 100) = xm_n S1 0 100 - s.heap.size by omega, show xm_n S 0 101 - t0 + (xm_n S1 0 101 - xm_n S 0 101) = xm_n S1 0 101 - t0 by omega]
  obtain ⟨f1, f2⟩ := hF
  rw [h0] at f1 f2
  have k := kk t.heap (locs ++ L') ls (hr1.moved hal.symm) ⟨Nat.le_trans h3 f1, fun q q1 q2 => (f2 q (Nat.lt_of_lt_of_le q1 h3) q2).trans (hS.2.1 q q1 q2), fun q hq => by
    rcases List.mem_append.mp hq with hq | hq
    · exact hS.2.2 q hq
    · exact hL' q hq⟩ hl
  rw [List.map_append] at k
  have e : (r.toList.map (xm_conc α)) = (r.map (xm_conc α)).toList := by cases r <;> rfl
  rw [e] at k
  exact k
theorem xm_pre (E : xm_env D g α base s) (hR : xm_rel D g α base S s H) (hS : va_S (fun q => base ≤ q) s.heap H locs) : ∀ U : State, U.heap = H → s.WarmedH U.vm → xm_Pc D g α base as S (as.map (xm_conc α)).toArray U := fun U hU hW => ⟨rfl, E.moved hW (by rw [hU]; exact hS.1) (fun q h1 h2 => by rw [hU]; exact hS.2.1 q h1 h2), by rw [hU]; exact hR.moved hW.alike⟩
theorem xm_w_callV {k0 : Nat} {as' : List xm_V} (C : xm_ctx p s m args c cc nL o) (E : xm_env D g α base s) {j : Nat} (hd : decode cc pc = .ok (.invokevirtual j, 3)) (hM : xm_Met l D g α base d mj as S r S1) (hj : mj < 182) (hlk : Cond.methodLink (xm_cn o) j (xm_Y mj) ∈ xm_tb) (hvm : xm_vm.contains mj = true) (hna : as.length = xm_na mj) (has : as = .inr (some (xm_ow mj, k0)) :: as') (hal : k0 < xm_n S 0 (xm_ow mj)) (hrest : rest.length ≤ 8) (hle : xm_le S S1) (ht : t0 ≤ xm_n S 0 101)
    (hfr : d + 11 ≤ R.frames) (hlo : 40 * (d + 11) ≤ R.locals) (hcells : xm_n S1 0 100 - s.heap.size ≤ R.cells) (hslots : xm_n S1 0 101 - t0 ≤ R.slots) (kk : xm_W p l e R s m args below meth c Q nL D g α base t0 (pc + 3) L (r.toList ++ rest) S1) : xm_W p l e R s m args below meth c Q nL D g α base t0 pc L (as.reverse ++ rest) S := by
  intro H locs ls hR hS hl
  obtain ⟨hx, hb, hml, hown, hts⟩ := C
  obtain ⟨m1, m2, m3, m4, m5, m6, m7, m8⟩ := xm_mf hj
  have hvm2 : mj ∈ xm_vm := List.contains_iff_mem.mp hvm
  have hv3 := List.all_eq_true.mp xm_vm_ok mj hvm2
  simp only [Bool.and_eq_true, decide_eq_true_eq, Bool.not_eq_true'] at hv3
  have him : mj ∈ xm_im := List.contains_iff_mem.mp hv3.1
  rw [if_neg (by rw [hv3.2.2]; decide)] at m8
  have hini : (Cond.initialized (xm_Y mj).cls).before args s = true := by
    rw [m4]
    exact hts _ (xm_init_in _ (List.mem_range.mpr (by omega)))
  have hsz := hR.1.1
  have h3 := hS.1
  have l1 := hle.1 100
  have l2 := hle.1 101
  have hRm : (xm_rm d (xm_n S1 0 100 - xm_n S 0 100) (xm_n S1 0 101 - xm_n S 0 101)).frames + 1 ≤ R.frames := by
    simp only [xm_rm]
    omega
  have hRl : 8 + (xm_ML mj + 11) + (xm_rm d (xm_n S1 0 100 - xm_n S 0 100) (xm_n S1 0 101 - xm_n S 0 101)).locals ≤ R.locals := xm_ar m6 hlo
  have hob := hR.2.2.2.2.1 (xm_ow mj) k0 (by omega) hal
  unfold xm_obj at hob
  rw [if_pos (by omega)] at hob
  obtain ⟨cell, q1, q2, q3, -⟩ := hob
  have hKn := E.1.1 _ _ (xm_cl_at (xm_ow mj) (by omega))
  have hp := xm_pre (as := as) E hR hS
  rw [has] at hp
  have hst : (as.reverse ++ rest).map (xm_conc α) = (as'.map (xm_conc α)).reverse ++ .ref (α (xm_ow mj) k0) :: rest.map (xm_conc α) := by
    rw [has]
    simp [xm_conc]
  rw [hst]
  subst has
  refine xm_goon (va_runV (As := as'.map (xm_conc α)) (C := (xm_Y mj).cls) (b := α (xm_ow mj) k0) ⟨hx, hb, hml, hown, hts⟩ hM
    ⟨callB_of (xm_na mj - 1) hts (xm_codeG hj) rfl rfl rfl hini (hts _ hlk) ⟨m1, m2, m8⟩ ⟨hRm, hRl⟩, hts _ (xm_im_in mj him), hts _ (xm_vm_in mj hvm2)⟩
    ⟨xm_blind D g α base _ S, ⟨cell, q1, by rw [q3]; rfl, by rw [q2, m4]; exact hKn.2.1⟩, hp⟩ rfl (by simp only [List.length_cons] at hna; rw [List.length_map]; omega) hl.1 rfl (lv_room (by rw [xm_cats]; exact hrest)) hd ⟨by omega, by omega⟩) (xm_after hle hR hS ht hl kk)
theorem xm_w_callS (C : xm_ctx p s m args c cc nL o) (E : xm_env D g α base s) {j : Nat} (hd : decode cc pc = .ok (.invokestatic j, 3)) (hM : xm_Met l D g α base d mj as S r S1) (hj : mj < 182) (hlk : Cond.methodLink (xm_cn o) j (xm_Y mj) ∈ xm_tb) (hsm : xm_sm.contains mj = true) (hna : as.length = xm_na mj) (hrest : rest.length ≤ 8) (hle : xm_le S S1) (ht : t0 ≤ xm_n S 0 101)
    (hfr : d + 11 ≤ R.frames) (hlo : 40 * (d + 11) ≤ R.locals) (hcells : xm_n S1 0 100 - s.heap.size ≤ R.cells) (hslots : xm_n S1 0 101 - t0 ≤ R.slots) (kk : xm_W p l e R s m args below meth c Q nL D g α base t0 (pc + 3) L (r.toList ++ rest) S1) : xm_W p l e R s m args below meth c Q nL D g α base t0 pc L (as.reverse ++ rest) S := by
  intro H locs ls hR hS hl
  obtain ⟨hx, hb, hml, hown, hts⟩ := C
  obtain ⟨m1, m2, m3, m4, m5, m6, m7, m8⟩ := xm_mf hj
  rw [if_pos hsm] at m8
  have hini : (Cond.initialized (xm_Y mj).cls).before args s = true := by
    rw [m4]
    exact hts _ (xm_init_in _ (List.mem_range.mpr (by omega)))
  have hsz := hR.1.1
  have h3 := hS.1
  have l1 := hle.1 100
  have l2 := hle.1 101
  have hRm : (xm_rm d (xm_n S1 0 100 - xm_n S 0 100) (xm_n S1 0 101 - xm_n S 0 101)).frames + 1 ≤ R.frames := by
    simp only [xm_rm]
    omega
  have hRl : 8 + (xm_ML mj + 11) + (xm_rm d (xm_n S1 0 100 - xm_n S 0 100) (xm_n S1 0 101 - xm_n S 0 101)).locals ≤ R.locals := xm_ar m6 hlo
  have hst : (as.reverse ++ rest).map (xm_conc α) = (as.map (xm_conc α)).reverse ++ rest.map (xm_conc α) := by simp
  rw [hst]
  exact xm_goon (va_runS (As := as.map (xm_conc α)) ⟨hx, hb, hml, hown, hts⟩ hM
    ⟨callB_of (xm_na mj) hts (xm_codeG hj) rfl rfl rfl hini (hts _ hlk) ⟨m1, m2, m8⟩ ⟨hRm, hRl⟩, hts _ (xm_sm_in mj (List.contains_iff_mem.mp hsm))⟩
    ⟨xm_blind D g α base _ S, xm_pre E hR hS⟩ rfl (by rw [List.length_map]; exact hna) hl.1 rfl (lv_room (by rw [xm_cats]; exact hrest)) hd ⟨by omega, by omega⟩) (xm_after hle hR hS ht hl kk)
theorem xm_w_callI {k0 : Nat} {as' : List xm_V} {c0 : Nat} (C : xm_ctx p s m args c cc nL o) (E : xm_env D g α base s) {j : Nat} (hd : decode cc pc = .ok (.invokespecial j, 3)) (hM : xm_Met l D g α base d mj as S r S1) (hj : mj < 182) (hlk : Cond.methodLink (xm_cn o) j (xm_Y mj) ∈ xm_tb ∨ (o = 0 ∧ j = 51 ∧ xm_Y mj = ⟨"WaterWorks$Tower", "<init>", "()V"⟩)) (hpm : xm_pm.contains mj = true) (hna : as.length = xm_na mj) (has : as = .inr (some (c0, k0)) :: as') (hrest : rest.length ≤ 8) (hle : xm_le S S1) (ht : t0 ≤ xm_n S 0 101)
    (hfr : d + 11 ≤ R.frames) (hlo : 40 * (d + 11) ≤ R.locals) (hcells : xm_n S1 0 100 - s.heap.size ≤ R.cells) (hslots : xm_n S1 0 101 - t0 ≤ R.slots) (kk : xm_W p l e R s m args below meth c Q nL D g α base t0 (pc + 3) L (r.toList ++ rest) S1) : xm_W p l e R s m args below meth c Q nL D g α base t0 pc L (as.reverse ++ rest) S := by
  intro H locs ls hR hS hl
  obtain ⟨hx, hb, hml, hown, hts⟩ := C
  obtain ⟨m1, m2, m3, m4, m5, m6, m7, m8⟩ := xm_mf hj
  have hpm2 : mj ∈ xm_pm := List.contains_iff_mem.mp hpm
  have hv3 := List.all_eq_true.mp xm_pm_ok mj hpm2
  have hv4 := List.all_eq_true.mp xm_pm_ns mj hpm2
  simp only [Bool.and_eq_true, decide_eq_true_eq, Bool.not_eq_true'] at hv3 hv4
  have him : mj ∈ xm_im := List.contains_iff_mem.mp hv3.2.2.1
  rw [if_neg (by rw [hv4]; decide)] at m8
  have hini : (Cond.initialized (xm_Y mj).cls).before args s = true := by
    rw [m4]
    exact hts _ (xm_init_in _ (List.mem_range.mpr (by omega)))
  have hsz := hR.1.1
  have h3 := hS.1
  have l1 := hle.1 100
  have l2 := hle.1 101
  have hRm : (xm_rm d (xm_n S1 0 100 - xm_n S 0 100) (xm_n S1 0 101 - xm_n S 0 101)).frames + 1 ≤ R.frames := by
    simp only [xm_rm]
    omega
  have hRl : 8 + (xm_ML mj + 11) + (xm_rm d (xm_n S1 0 100 - xm_n S 0 100) (xm_n S1 0 101 - xm_n S 0 101)).locals ≤ R.locals := xm_ar m6 hlo
  have hp := xm_pre (as := as) E hR hS
  rw [has] at hp
  have hst : (as.reverse ++ rest).map (xm_conc α) = (as'.map (xm_conc α)).reverse ++ .ref (α c0 k0) :: rest.map (xm_conc α) := by
    rw [has]
    simp [xm_conc]
  rw [hst]
  subst has
  unfold xm_Met at hM
  have hG := xm_codeG hj
  rw [hv3.2.1] at hM hG
  rcases hlk with hlk | ⟨rfl, rfl, hy⟩
  · exact xm_goon (va_runI (As := as'.map (xm_conc α)) (b := α c0 k0) ⟨hx, hb, hml, hown, hts⟩ hM
      ⟨callB_of (xm_na mj - 1) hts hG rfl rfl rfl hini (hts _ hlk) ⟨m1, m2, m8⟩ ⟨hRm, hRl⟩, hv3.1, hts _ (xm_im_in mj him)⟩
      ⟨xm_blind D g α base _ S, hp⟩ rfl (by simp only [List.length_cons] at hna; rw [List.length_map]; omega) hl.1 rfl (lv_room (by rw [xm_cats]; exact hrest)) hd ⟨by omega, by omega⟩) (xm_after hle hR hS ht hl kk)
  · exact xm_goon (va_runIN (As := as'.map (xm_conc α)) (b := α c0 k0) ⟨hx, hb, hml, hown, hts⟩ hM
      ⟨va_cnB (host := "WaterWorks") (xm_na mj - 1) hts hG rfl rfl rfl (by rw [hy]; exact E.2.2.2.1) hini ⟨m1, m2, m8⟩ ⟨hRm, hRl⟩, hv3.1, hts _ (xm_im_in mj him)⟩
      ⟨xm_blind D g α base _ S, hp⟩ rfl (by simp only [List.length_cons] at hna; rw [List.length_map]; omega) hl.1 rfl (lv_room (by rw [xm_cats]; exact hrest)) hd ⟨by omega, by omega⟩) (xm_after hle hR hS ht hl kk)
end XMC
