/-! ===== the lists' members, Math's, Object's beginning: all of them as steps ===== -/
section XMI5
variable {p : Program} {l : Launch} {e : Env} {R : Room} {s : State} {m : MethodId} {args : Array Value} {below : List Frame} {meth : Method} {c : Code} {Q : State → Prop} {cc : ByteArray} {nL o : Nat} {D : va_G} {g : xm_G} {α : Nat → Nat → Nat} {base t0 : Nat} {pc : Nat} {L : xm_L} {st : List xm_V} {S : xm_S} {k jx : Nat}
theorem xm_i_obj {y : Nat × Nat} (C : xm_ctx p s m args c cc nL o) (hfr : 10 ≤ R.frames) (hlo : 400 ≤ R.locals) (h8 : st.length ≤ 8) (hd : decode cc pc = .ok (.invokespecial jx, 3)) (hlk : Cond.methodLink (xm_cn o) jx objectInit ∈ xm_tb) (kk : xm_W p l e R s m args below meth c Q nL D g α base t0 (pc + 3) L st S) : xm_W p l e R s m args below meth c Q nL D g α base t0 pc L (.inr (some y) :: st) S := by
  intro H locs ls hR hS hl
  obtain ⟨hx, hb, hml, hown, hts⟩ := C
  refine W.objInit hx hb hown (hts _ hlk) (hts _ jo_inst) (hts _ jo_code) rfl (by rw [hml]; exact hl.1) rfl hd (by omega) (by have := xm_cats α st; show 2 * 0 + ((st.map (xm_conc α)).map fun v => v.category).sum + 12 ≤ R.locals; omega) ?_
  exact kk H locs ls hR hS hl
theorem xm_i_abs {x : Int32} (C : xm_ctx p s m args c cc nL o) (hfr : 10 ≤ R.frames) (hlo : 400 ≤ R.locals) (h8 : st.length ≤ 8) (hcells : xm_n S 0 100 - s.heap.size ≤ R.cells) (hslots : xm_n S 0 101 - t0 ≤ R.slots) (hd : decode cc pc = .ok (.invokestatic jx, 3)) (hlk : Cond.methodLink (xm_cn o) jx Lib.Math.abs.name ∈ xm_tb) (kk : xm_W p l e R s m args below meth c Q nL D g α base t0 (pc + 3) L (.inl (if 0 ≤ x then x else -x) :: st) S) : xm_W p l e R s m args below meth c Q nL D g α base t0 pc L (.inl x :: st) S := by
  intro H locs ls hR hS hl
  obtain ⟨hx, hb, hml, hown, hts⟩ := C
  have e1 : (if 0 ≤ x then x else 0 - x) = if 0 ≤ x then x else -x := by
    rw [show (0 : Int32) - x = -x by simp]
  have k2 := kk H locs ls hR hS hl
  rw [← e1] at k2
  exact va_mabs hx hb (by rw [hml]; exact hl.1.symm) hown (hts _ hlk) (hts _ jzs_abs) (hts _ jn_mat) (hts _ jz_abs) (by omega) (by have := xm_cats α st; omega) hcells hslots hd k2
theorem xm_i_min {x y : Int32} (C : xm_ctx p s m args c cc nL o) (hfr : 10 ≤ R.frames) (hlo : 400 ≤ R.locals) (h8 : st.length ≤ 8) (hcells : xm_n S 0 100 - s.heap.size ≤ R.cells) (hslots : xm_n S 0 101 - t0 ≤ R.slots) (hd : decode cc pc = .ok (.invokestatic jx, 3)) (hlk : Cond.methodLink (xm_cn o) jx Lib.Math.min.name ∈ xm_tb) (kk : xm_W p l e R s m args below meth c Q nL D g α base t0 (pc + 3) L (.inl (if x ≤ y then x else y) :: st) S) : xm_W p l e R s m args below meth c Q nL D g α base t0 pc L (.inl y :: .inl x :: st) S := by
  intro H locs ls hR hS hl
  obtain ⟨hx, hb, hml, hown, hts⟩ := C
  have e1 : (if y < x then y else x) = if x ≤ y then x else y := by
    by_cases h : y < x
    · rw [if_pos h, if_neg (Int32.not_le.mpr h)]
    · rw [if_neg h, if_pos (Int32.not_lt.mp h)]
  have k2 := kk H locs ls hR hS hl
  rw [← e1] at k2
  exact va_mmin hx hb (by rw [hml]; exact hl.1.symm) hown (hts _ hlk) (hts _ jzs_min) (hts _ jn_mat) (hts _ jz_min) (by omega) (by have := xm_cats α st; omega) hcells hslots hd k2
end XMI5
theorem xm_intrOK (l : Launch) (D : va_G) (g : xm_G) (α : Nat → Nat → Nat) (base : Nat) : xm_Intr l D g α base := by
  intro p e R s m args below meth c Q cc nL o t0 pc L st S raw j q X C E hd hlk hq h8 hal hL hst h ht hfr hlo hα hcells hslots kk
  have lk : (raw = .invokevirtual j ∧ Cond.methodLink (xm_cn o) j (xm_jy (q / 256)) ∈ xm_tb ∧ (1001 ≤ q / 256 ∧ q / 256 ≤ 1006)) ∨ (raw = .invokespecial j ∧ Cond.methodLink (xm_cn o) j (xm_jy (q / 256)) ∈ xm_tb ∧ (q / 256 = 1000 ∨ q / 256 = 1009)) ∨ (raw = .invokestatic j ∧ Cond.methodLink (xm_cn o) j (xm_jy (q / 256)) ∈ xm_tb ∧ (q / 256 = 1007 ∨ q / 256 = 1008)) := by
    rcases hlk with ⟨a, b⟩ | ⟨a, b⟩ | ⟨a, b⟩
    · exact Or.inl ⟨a, xm_jv_at b hq⟩
    · exact Or.inr (Or.inl ⟨a, xm_jp_at b hq⟩)
    · exact Or.inr (Or.inr ⟨a, xm_js_at b hq⟩)
  have hle : xm_le S X.2.2.2 := (xm_intr_al hal hL hst h).1
  have l1 := hle.1 100
  have l2 := hle.1 101
  have hc0 : xm_n S 0 100 - s.heap.size ≤ R.cells := by omega
  have hs0 : xm_n S 0 101 - t0 ≤ R.slots := by omega
  clear hlk hq
  generalize q / 256 = n at h lk
  have V : ∀ i, n = i → 1001 ≤ i → i ≤ 1006 → decode cc pc = .ok (.invokevirtual j, 3) ∧ Cond.methodLink (xm_cn o) j (xm_jy i) ∈ xm_tb := by
    rintro i rfl h1 h2
    rcases lk with ⟨a, b, -⟩ | ⟨a, b, z⟩ | ⟨a, b, z⟩
    · rw [a] at hd
      exact ⟨hd, b⟩
    · omega
    · omega
  have P : ∀ i, n = i → i = 1000 ∨ i = 1009 → decode cc pc = .ok (.invokespecial j, 3) ∧ Cond.methodLink (xm_cn o) j (xm_jy i) ∈ xm_tb := by
    rintro i rfl h1
    rcases lk with ⟨a, b, z⟩ | ⟨a, b, z⟩ | ⟨a, b, z⟩
    · omega
    · rw [a] at hd
      exact ⟨hd, b⟩
    · omega
  have T : ∀ i, n = i → i = 1007 ∨ i = 1008 → decode cc pc = .ok (.invokestatic j, 3) ∧ Cond.methodLink (xm_cn o) j (xm_jy i) ∈ xm_tb := by
    rintro i rfl h1
    rcases lk with ⟨a, b, z⟩ | ⟨a, b, z⟩ | ⟨a, b, z⟩
    · omega
    · omega
    · rw [a] at hd
      exact ⟨hd, b⟩
  clear lk
  unfold xm_intr at h
  split at h
  · split at h
    · rename_i h0
      cases h
      obtain ⟨d1, d2⟩ := P 1000 rfl (Or.inl rfl)
      exact xm_i_ini C E hfr hlo (by simp only [List.length_cons] at h8; omega) hc0 hs0 d1 d2 (hst.hd _ _ rfl).2 h0 kk
    · cases h
  · split at h
    · cases h
    · rename_i x k st' h0
      cases h
      obtain ⟨d1, d2⟩ := V 1001 rfl (by decide) (by decide)
      have hk := (hst.tl.hd _ _ rfl).2
      have hxk : x.2 < xm_n S 0 x.1 := (hst.hd x.1 x.2 rfl).2
      have h8' : st'.length ≤ 8 := by simp only [List.length_cons] at h8; omega
      have hz5 : xm_n S 1 k < 100000 := by omega
      have hx12 : x.1 < 12 := by omega
      replace kk : xm_W p l e R s m args below meth c Q nL D g α base t0 (pc + 3) L (.inl 1 :: st') (xm_push k x S) := kk
      replace hcells : xm_n (xm_push k x S) 0 100 - s.heap.size ≤ R.cells := hcells
      replace hslots : xm_n (xm_push k x S) 0 101 - t0 ≤ R.slots := hslots
      unfold xm_push xm_room at kk hcells hslots
      by_cases h1e : xm_n S 2 k = 1
      · rw [if_pos h1e] at kk hcells hslots
        rw [xm_gn] at hcells hslots
        rw [if_neg (by omega), if_neg (by omega), if_pos ⟨rfl, rfl⟩] at hcells
        rw [if_neg (by omega), if_neg (by omega), if_neg (by omega), if_pos ⟨rfl, rfl⟩] at hslots
        have hz0 : ∀ H, xm_rel D g α base S s H → xm_n S 1 k = 0 := fun H hR => by
          obtain ⟨mo, ed, -, hx3⟩ := xm_lst hR hk
          rcases hx3 with hx3 | hx3 | hx3
          · omega
          · exact hx3.2.2
          · omega
        intro H locs ls hR hS hl
        rw [hz0 H hR] at kk
        exact xm_i_addn C E hfr hlo h8' ht d1 d2 hk hx12 hxk hz5 h1e hcells hslots kk H locs ls hR hS hl
      · rw [if_neg h1e] at kk hcells hslots
        by_cases heq : xm_n S 1 k = xm_n S 2 k
        · rw [if_pos heq] at kk hcells hslots
          rw [xm_gn] at hcells hslots
          rw [if_neg (by omega), if_neg (by omega), if_pos ⟨rfl, rfl⟩] at hcells
          rw [if_neg (by omega), if_neg (by omega), if_neg (by omega), if_pos ⟨rfl, rfl⟩] at hslots
          rw [heq] at kk
          exact xm_i_addf C E hfr hlo h8' ht d1 d2 hal hk hx12 hxk hz5 (by omega) heq hcells hslots kk
        · rw [if_neg heq] at kk
          exact xm_i_addr C E hfr hlo h8' hc0 hs0 d1 d2 hk hx12 hxk hz5 (by omega) heq kk
  · obtain ⟨j', hj, h⟩ := Option.bind_eq_some_iff.mp h
    cases h
    obtain ⟨d1, d2⟩ := V 1002 rfl (by decide) (by decide)
    exact xm_i_get C E hfr hlo (by simp only [List.length_cons] at h8; omega) hc0 hs0 d1 d2 (hst.tl.hd _ _ rfl).2 hj kk
  · split at h
    · cases h
    rename_i x i k st' hx12
    obtain ⟨j', hj, h⟩ := Option.bind_eq_some_iff.mp h
    cases h
    obtain ⟨d1, d2⟩ := V 1003 rfl (by decide) (by decide)
    exact xm_i_set C E hfr hlo (by simp only [List.length_cons] at h8; omega) hc0 hs0 d1 d2 (hst.tl.tl.hd _ _ rfl).2 hj (by omega) (hst.hd x.1 x.2 rfl).2 kk
  · obtain ⟨j', hj, h⟩ := Option.bind_eq_some_iff.mp h
    cases h
    obtain ⟨d1, d2⟩ := V 1004 rfl (by decide) (by decide)
    exact xm_i_rem C E hfr hlo (by simp only [List.length_cons] at h8; omega) hc0 hs0 d1 d2 hal (hst.tl.hd _ _ rfl).2 hj kk
  · cases h
    obtain ⟨d1, d2⟩ := V 1005 rfl (by decide) (by decide)
    exact xm_i_size C E hfr hlo (by simp only [List.length_cons] at h8; omega) hc0 hs0 d1 d2 (hst.hd _ _ rfl).2 kk
  · rename_i k st'
    cases h
    obtain ⟨d1, d2⟩ := V 1006 rfl (by decide) (by decide)
    have hk := (hst.hd _ _ rfl).2
    intro H locs ls hR hS hl
    have hsm : xm_n S 1 k < 2 ^ 31 := by
      obtain ⟨mo, ed, -, hx3⟩ := xm_lst hR hk
      rcases hx3 with hx3 | hx3 | hx3 <;> omega
    exact xm_i_emp C E hfr hlo (by simp only [List.length_cons] at h8; omega) hc0 hs0 d1 d2 hk hsm kk H locs ls hR hS hl
  · cases h
    obtain ⟨d1, d2⟩ := T 1007 rfl (Or.inl rfl)
    exact xm_i_abs C hfr hlo (by simp only [List.length_cons] at h8; omega) hc0 hs0 d1 d2 kk
  · cases h
    obtain ⟨d1, d2⟩ := T 1008 rfl (Or.inr rfl)
    exact xm_i_min C hfr hlo (by simp only [List.length_cons] at h8; omega) hc0 hs0 d1 d2 kk
  · cases h
    obtain ⟨d1, d2⟩ := P 1009 rfl (Or.inr rfl)
    exact xm_i_obj C hfr hlo (by simp only [List.length_cons] at h8; omega) d1 d2 kk
  · cases h
