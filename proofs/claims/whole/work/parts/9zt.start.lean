/-! ===== THE START: the tables' words, static arrays, classes ===== -/
section
def zt_fl : List Cond := flatC (Jvm.Cond.and given_1 narrow_1)
def zt_pos : List (List Nat) := [[9, 10, 11, 12, 13, 14, 15, 16, 17, 18, 19, 20], [22, 23, 24, 25, 26, 27, 28, 29, 30, 31, 32, 33], [35, 36, 37, 38, 39, 40, 41, 42, 43, 44, 45, 46], [48, 49, 50, 51, 52, 53, 54, 55, 56, 57, 58, 59], [61, 62, 63, 64, 65, 66, 67, 68, 69, 70, 71, 72], [74, 75, 76, 77, 78, 79, 80, 81, 82, 83, 84, 85], [87, 88, 89, 90, 91, 92, 93, 94, 95, 96, 97, 98, 99, 100, 101, 102, 103, 104]]
set_option maxRecDepth 100000 in
theorem zt_ck : ((List.range 7).all fun k => decide (zt_fl[(zt_pos.getD k []).getD 0 0]? = some (Cond.arrayOf (.static "WaterWorks" (xm_sname k) "[I") .int)) && (decide (zt_fl[(zt_pos.getD k []).getD 1 0]? = some (Cond.eq (.length (.static "WaterWorks" (xm_sname k) "[I")) (.int (Int32.ofNat (kS_T.getD k []).length)))) && ((List.range (kS_T.getD k []).length).all fun j => decide (zt_fl[(zt_pos.getD k []).getD (j + 2) 0]? = some (Cond.eq (.elem (.static "WaterWorks" (xm_sname k) "[I") (.int (Int32.ofNat j))) (.int ((kS_T.getD k []).getD j 0))))))) = true := by decide +kernel
theorem zt_len {args : Array Value} {s : State} {tm : Term} {N : Nat} (hN : N < 2 ^ 31) (h : (Term.length tm).eval args s none [] s = some (.int (Int32.ofNat N))) : ∃ (t : Nat) (cell : Cell), tm.eval args s none [] s = some (.ref t) ∧ s.arrayAt? t = some cell ∧ cell.slots.size = N := by
  simp only [Term.eval, Option.bind_eq_bind] at h
  cases ht : tm.eval args s none [] s with
  | none => simp [ht] at h
  | some x =>
    cases x <;> simp [ht] at h
    case ref a =>
      obtain ⟨cell, hcell, h⟩ := Option.bind_eq_some_iff.mp h
      by_cases hn : cell.slots.size < 2147483648
      · rw [if_pos hn] at h
        have e : Int32.ofNat cell.slots.size = Int32.ofNat N := Value.int.inj (Option.some.inj h)
        have e2 := congrArg Int32.toNatClampNeg e
        rw [Int32.toNatClampNeg_ofNat_of_lt hn, Int32.toNatClampNeg_ofNat_of_lt hN] at e2
        exact ⟨a, cell, rfl, hcell, e2⟩
      · rw [if_neg hn] at h; cases h
theorem zt_X {args : Array Value} {s : State} {tm : Term} {N : Nat} {f : Nat → Int32} (hN : N < 2 ^ 31) (harr : (Cond.arrayOf tm .int).before args s = true) (hlen : (Term.length tm).eval args s none [] s = some (.int (Int32.ofNat N))) (hel : ∀ j : Nat, j < N → (Term.elem tm (.int (Int32.ofNat j))).eval args s none [] s = some (.int (f j))) : ∃ t : Nat, tm.eval args s none [] s = some (.ref t) ∧ t < s.heap.size ∧ va_X t N f s s.heap := by
  obtain ⟨t, ht, cell, hc, hof, hkn, -, -, hel2, -⟩ := va_Tof (f := fun j => .int (f j)) (A := fun _ => False) hN harr hlen hel (fun _ _ h => h)
  obtain ⟨t2, cell2, ht2, hat, hsz⟩ := zt_len hN hlen
  cases ht.symm.trans ht2
  obtain ⟨hc2, -⟩ := State.arrayAt?_spec hat
  cases hc.symm.trans hc2
  exact ⟨t, ht, (Array.getElem?_eq_some_iff.mp hc).1, cell, hc, hof, hkn, hsz, hel2⟩
theorem zt_small : ∀ k, k < 7 → (kS_T.getD k []).length < 2 ^ 31 := by decide +kernel
/-- the class's seven static arrays -/
theorem zt_stat {args : Array Value} {s : State} (hgv : (Jvm.Cond.and given_1 narrow_1).before args s = true) (k : Nat) (hk : k < 7) : ∃ t : Nat, (Term.static "WaterWorks" (xm_sname k) "[I").eval args s none [] s = some (.ref t) ∧ t < s.heap.size ∧ va_X t (kS_T.getD k []).length (fun j => (kS_T.getD k []).getD j 0) s s.heap := by
  have hs := flat_of_before _ hgv
  obtain ⟨h1, h23⟩ := Bool.and_eq_true_iff.mp (List.all_eq_true.mp zt_ck k (List.mem_range.mpr hk))
  obtain ⟨h2, h3⟩ := Bool.and_eq_true_iff.mp h23
  exact zt_X (zt_small k hk) (hs _ (List.mem_of_getElem? (of_decide_eq_true h1))) (va_eqt (hs _ (List.mem_of_getElem? (of_decide_eq_true h2)))) (fun j hj => va_eqt (hs _ (List.mem_of_getElem? (of_decide_eq_true (List.all_eq_true.mp h3 j (List.mem_range.mpr hj))))))
/-- the JDK's empty array -/
theorem zt_emp {args : Array Value} {s : State} (hgv : (Jvm.Cond.and given_1 narrow_1).before args s = true) : ∃ (t : Nat) (cell : Cell), (Term.static "java/util/ArrayList" "DEFAULTCAPACITY_EMPTY_ELEMENTDATA" "[Ljava/lang/Object;").eval args s none [] s = some (.ref t) ∧ s.heap[t]? = some cell ∧ s.isArrayOf cell (.object "java/lang/Object") ∧ cell.slots.size = 0 := by
  have hs := flat_of_before _ hgv
  have h1 : (Cond.arrayOf (.static "java/util/ArrayList" "DEFAULTCAPACITY_EMPTY_ELEMENTDATA" "[Ljava/lang/Object;") (.object "java/lang/Object")).before args s = true := hs _ (List.mem_of_getElem? (i := 5) (by decide +kernel))
  have h2 : (Cond.eq (.length (.static "java/util/ArrayList" "DEFAULTCAPACITY_EMPTY_ELEMENTDATA" "[Ljava/lang/Object;")) (.int (Int32.ofNat 0))).before args s = true := hs _ (List.mem_of_getElem? (i := 7) (by decide +kernel))
  obtain ⟨t, cell, ht, hat, hsz⟩ := zt_len (N := 0) (by decide) (va_eqt h2)
  obtain ⟨hc, -⟩ := State.arrayAt?_spec hat
  exact ⟨t, cell, ht, hc, (Cond.arrayOf_spec h1 ht hc).1, hsz⟩
theorem zt_mir {args : Array Value} {s : State} (hgv : (Jvm.Cond.and given_1 narrow_1).before args s = true) : ∃ mi : Nat, va_Mi "[Ljava/lang/Object;" mi s := va_Mi.of (flat_of_before _ hgv _ (List.mem_of_getElem? (i := 105) (by decide +kernel)))
theorem zt_in {i : Nat} {w : Cond} (h : tables_1[i]? = some w) : w ∈ lw_tbl := List.mem_append_right _ (List.mem_of_getElem? h)
theorem zt_D {args : Array Value} {s : State} (hts : ∀ w ∈ lw_tbl, w.before args s = true) : ∃ D : va_G, ∀ (c : Nat) (q : vw_C), xm_cl[c]? = some q → u_Kn s q.1 q.2.1 q.2.2 (D.1 c) (D.2 c) := by
  have H : ∀ c, ∃ z : ClassId × (Nat → Nat), c < 13 → u_Kn s (xm_cn c) (fun k => xm_fn c k) (xm_nf c) z.1 z.2 := by
    intro c
    by_cases hc : c < 13
    · obtain ⟨cC, iS, h⟩ := u_known (C := xm_cn c) (T := fun k => xm_fn c k) (N := xm_nf c) (n := xm_nf c) (fun w hw => hts w (xm_tb_of hw)) (xm_ws_in hc) (hts _ (xm_tb_of (xm_inst_in c (List.mem_range.mpr hc))))
      exact ⟨(cC, iS), fun _ => h⟩
    · exact ⟨(0, fun _ => 0), fun h => absurd h hc⟩
  refine ⟨(fun c => (H c).choose.1, fun c => (H c).choose.2), fun c q hq => ?_⟩
  have hc : c < 13 := (List.getElem?_eq_some_iff.mp hq).1
  have e := (xm_cl_at c hc).symm.trans hq
  cases e
  exact (H c).choose_spec hc
theorem zt_g {args : Array Value} {s : State} (hts : ∀ w ∈ lw_tbl, w.before args s = true) (e : Nat) : ∃ g : xm_G, g.2.2.2.2 = e ∧ ∀ (k : Nat) (q : ClassId × FieldType), (xm_tys g)[k]? = some q → ArrOfT s q.1 q.2 ∧ va_RA s q.1 q.2 := by
  obtain ⟨c1, k1, p1, a1, a2, a3⟩ := Cond.arrayClass_spec (hts (.arrayClass .int) (zt_in (i := 1361) (by decide +kernel)))
  obtain ⟨c2, k2, p2, b1, b2, b3⟩ := Cond.arrayClass_spec (hts (.arrayClass .boolean) (zt_in (i := 1362) (by decide +kernel)))
  obtain ⟨p3, c3, k3, d1, d2, d3, d4, d5⟩ := Cond.arrayOver_spec (hts (.arrayOver (.object "WaterWorks$Call")) (zt_in (i := 295) (by decide +kernel)))
  obtain ⟨p4, c4, k4, e1, e2, e3, e4, e5⟩ := Cond.arrayOver_spec (hts (.arrayOver (.object "java/lang/Object")) (zt_in (i := 204) (by decide +kernel)))
  refine ⟨(c1, c2, c3, c4, e), rfl, ?_⟩
  intro k q hq
  match k, hq with
  | 0, hq => cases hq; exact ⟨fun n z => ⟨fun k h => (by cases h), k1, a2, p1, a3⟩, a1⟩
  | 1, hq => cases hq; exact ⟨fun n z => ⟨fun k h => (by cases h), k2, b2, p2, b3⟩, b1⟩
  | 2, hq => cases hq; exact ⟨fun n z => ⟨fun k h => (by cases h), k3, d3, p3, d4⟩, ⟨k3, p3, d3, d4, d1, d5⟩⟩
  | 3, hq => cases hq; exact ⟨fun n z => ⟨fun k h => (by cases h), k4, e3, p4, e4⟩, ⟨k4, p4, e3, e4, e1, e5⟩⟩
  | k + 4, hq => simp [xm_tys] at hq
def zt_csp : List Nat := [1641, 1652, 1640, 1650, 1649, 1647, 1648, 1651, 1646, 1645, 1643, 1644]
set_option maxRecDepth 100000 in
theorem zt_cs : ((List.range 12).all fun c => decide (tables_1[zt_csp.getD c 0]? = some (Cond.castable (xm_cn c) "java/lang/Object"))) = true := by decide +kernel
def zt_lsp : List Nat := [275, 277, 279, 281, 283, 285, 605]
set_option maxRecDepth 100000 in
theorem zt_ls : ((List.range 7).all fun k => decide (tables_1[zt_lsp.getD k 0]? = some (Cond.laysStatic "WaterWorks" (xm_sname k) "[I"))) = true := by decide +kernel
/-- what the machine has at the law's entry -/
theorem zt_env {args : Array Value} {s : State} (hts : ∀ w ∈ lw_tbl, w.before args s = true) (hgv : (Jvm.Cond.and given_1 narrow_1).before args s = true) : ∃ (D : va_G) (g : xm_G) (τ : Nat → Nat), (∀ k, k < 7 → τ k < s.heap.size ∧ va_X (τ k) (kS_T.getD k []).length (fun j => (kS_T.getD k []).getD j 0) s s.heap) ∧ ∀ α : Nat → Nat → Nat, (∀ k, k < 7 → α 16 k = τ k) → xm_env D g α s.heap.size s := by
  have hA : ∀ a : Nat, a < s.heap.size → ¬ (fun q : Nat => s.heap.size ≤ q) a := fun a h z => absurd z (Nat.not_le.mpr h)
  obtain ⟨D, hD⟩ := zt_D hts
  obtain ⟨t, cell, ht, hc, hof, hsz⟩ := zt_emp hgv
  obtain ⟨g, hge, hg⟩ := zt_g hts t
  have HT : ∀ k, ∃ t : Nat, k < 7 → (Term.static "WaterWorks" (xm_sname k) "[I").eval args s none [] s = some (.ref t) ∧ t < s.heap.size ∧ va_X t (kS_T.getD k []).length (fun j => (kS_T.getD k []).getD j 0) s s.heap := by
    intro k
    by_cases hk : k < 7
    · obtain ⟨t, h⟩ := zt_stat hgv k hk
      exact ⟨t, fun _ => h⟩
    · exact ⟨0, fun h => absurd h hk⟩
  refine ⟨D, g, fun k => (HT k).choose, fun k hk => ((HT k).choose_spec hk).2, fun α hα => ?_⟩
  refine ⟨⟨hD, hg⟩, ⟨va_AO.of (hts _ (zt_in (i := 295) (by decide +kernel))), va_AO.of (hts _ (zt_in (i := 204) (by decide +kernel)))⟩, fun c hc => va_Nw.of rfl (hts _ (zt_in (of_decide_eq_true (List.all_eq_true.mp zt_cs c (List.mem_range.mpr hc))))), va_Nw.of rfl (hts _ (zt_in (i := 58) (by decide +kernel))), fun k hk => ?_, ?_, Nat.le_refl _⟩
  · rw [hα k hk]
    exact va_Zref (hts _ (zt_in (of_decide_eq_true (List.all_eq_true.mp zt_ls k (List.mem_range.mpr hk))))) (hts _ (zt_in (i := 1) (by decide +kernel))) ((HT k).choose_spec hk).1 hA
  · refine ⟨zt_mir hgv, va_Dc.of (hts _ (zt_in (i := 1655) (by decide +kernel))), ?_, ?_, ?_⟩
    · rw [hge]
      exact va_Zref (hts _ (zt_in (i := 43) (by decide +kernel))) (hts _ (zt_in (i := 4) (by decide +kernel))) ht hA
    · rw [hge]
      exact ⟨cell, hc, hof, hsz⟩
    · rw [hge]
      exact (Array.getElem?_eq_some_iff.mp hc).1
end
