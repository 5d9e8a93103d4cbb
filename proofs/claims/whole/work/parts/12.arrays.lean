/-! ===== arrays, new objects, casts, switches ===== -/
theorem xm_mk_0 (c N : Nat) (S : xm_S) (q : Nat) (h : q ≠ c) (h1 : q < 100) : xm_n (xm_mk c N S) 0 q = xm_n S 0 q := by
  show (if ((0:Nat) : Nat) = 0 ∧ q = c then xm_n S 0 c + 1 else if (0:Nat) = 0 ∧ q = 100 then xm_n S 0 100 + 1 else if (0:Nat) = 0 ∧ q = 101 then xm_n S 0 101 + N else if (0:Nat) = 10 + c ∧ q = xm_n S 0 c then N else if c = 12 ∧ ((0:Nat) = 1 ∨ (0:Nat) = 2) ∧ q = xm_n S 0 12 then 0 else xm_n S (0:Nat) q) = _
  rw [if_neg (by omega), if_neg (by omega), if_neg (by omega), if_neg (by omega), if_neg (by omega)]
theorem xm_mk_c (c N : Nat) (S : xm_S) : xm_n (xm_mk c N S) 0 c = xm_n S 0 c + 1 := by
  show (if ((0:Nat) : Nat) = 0 ∧ c = c then xm_n S 0 c + 1 else if (0:Nat) = 0 ∧ c = 100 then xm_n S 0 100 + 1 else if (0:Nat) = 0 ∧ c = 101 then xm_n S 0 101 + N else if (0:Nat) = 10 + c ∧ c = xm_n S 0 c then N else if c = 12 ∧ ((0:Nat) = 1 ∨ (0:Nat) = 2) ∧ c = xm_n S 0 12 then 0 else xm_n S (0:Nat) c) = _
  rw [if_pos ⟨rfl, rfl⟩]
theorem xm_mk_100 (c N : Nat) (S : xm_S) (h : c < 100) : xm_n (xm_mk c N S) 0 100 = xm_n S 0 100 + 1 := by
  show (if ((0:Nat) : Nat) = 0 ∧ 100 = c then xm_n S 0 c + 1 else if (0:Nat) = 0 ∧ 100 = 100 then xm_n S 0 100 + 1 else if (0:Nat) = 0 ∧ 100 = 101 then xm_n S 0 101 + N else if (0:Nat) = 10 + c ∧ 100 = xm_n S 0 c then N else if c = 12 ∧ ((0:Nat) = 1 ∨ (0:Nat) = 2) ∧ 100 = xm_n S 0 12 then 0 else xm_n S (0:Nat) 100) = _
  rw [if_neg (by omega), if_pos ⟨rfl, rfl⟩]
theorem xm_mk_101 (c N : Nat) (S : xm_S) (h : c < 100) : xm_n (xm_mk c N S) 0 101 = xm_n S 0 101 + N := by
  show (if ((0:Nat) : Nat) = 0 ∧ 101 = c then xm_n S 0 c + 1 else if (0:Nat) = 0 ∧ 101 = 100 then xm_n S 0 100 + 1 else if (0:Nat) = 0 ∧ 101 = 101 then xm_n S 0 101 + N else if (0:Nat) = 10 + c ∧ 101 = xm_n S 0 c then N else if c = 12 ∧ ((0:Nat) = 1 ∨ (0:Nat) = 2) ∧ 101 = xm_n S 0 12 then 0 else xm_n S (0:Nat) 101) = _
  rw [if_neg (by omega), if_neg (by omega), if_pos ⟨rfl, rfl⟩]
theorem xm_mk_len (c N : Nat) (S : xm_S) : xm_n (xm_mk c N S) (10 + c) (xm_n S 0 c) = N := by
  show (if ((10 + c) : Nat) = 0 ∧ (xm_n S 0 c) = c then xm_n S 0 c + 1 else if (10 + c) = 0 ∧ (xm_n S 0 c) = 100 then xm_n S 0 100 + 1 else if (10 + c) = 0 ∧ (xm_n S 0 c) = 101 then xm_n S 0 101 + N else if (10 + c) = 10 + c ∧ (xm_n S 0 c) = xm_n S 0 c then N else if c = 12 ∧ ((10 + c) = 1 ∨ (10 + c) = 2) ∧ (xm_n S 0 c) = xm_n S 0 12 then 0 else xm_n S (10 + c) (xm_n S 0 c)) = _
  rw [if_neg (by omega), if_neg (by omega), if_neg (by omega), if_pos ⟨rfl, rfl⟩]
theorem xm_mk_o (c N : Nat) (S : xm_S) (p q : Nat) (h : p ≠ 0) (h1 : ¬ (p = 10 + c ∧ q = xm_n S 0 c)) (h2 : ¬ (c = 12 ∧ (p = 1 ∨ p = 2) ∧ q = xm_n S 0 12)) : xm_n (xm_mk c N S) p q = xm_n S p q := by
  show (if (p : Nat) = 0 ∧ q = c then xm_n S 0 c + 1 else if p = 0 ∧ q = 100 then xm_n S 0 100 + 1 else if p = 0 ∧ q = 101 then xm_n S 0 101 + N else if p = 10 + c ∧ q = xm_n S 0 c then N else if c = 12 ∧ (p = 1 ∨ p = 2) ∧ q = xm_n S 0 12 then 0 else xm_n S p q) = _
  rw [if_neg (by omega), if_neg (by omega), if_neg (by omega), if_neg h1, if_neg h2]
theorem xm_mk_l0 (N : Nat) (S : xm_S) (p : Nat) (h : p = 1 ∨ p = 2) : xm_n (xm_mk 12 N S) p (xm_n S 0 12) = 0 := by
  show (if (p : Nat) = 0 ∧ (xm_n S 0 12) = 12 then xm_n S 0 12 + 1 else if p = 0 ∧ (xm_n S 0 12) = 100 then xm_n S 0 100 + 1 else if p = 0 ∧ (xm_n S 0 12) = 101 then xm_n S 0 101 + N else if p = 10 + 12 ∧ (xm_n S 0 12) = xm_n S 0 12 then N else if 12 = 12 ∧ (p = 1 ∨ p = 2) ∧ (xm_n S 0 12) = xm_n S 0 12 then 0 else xm_n S p (xm_n S 0 12)) = _
  rw [if_neg (by omega), if_neg (by omega), if_neg (by omega), if_neg (by omega), if_pos ⟨rfl, h, rfl⟩]
theorem xm_mk_a (c N : Nat) (S : xm_S) : xm_a (xm_mk c N S) c (xm_n S 0 c) = xm_n S 0 100 := by
  show xm_u2 _ c _ _ c _ = _
  unfold xm_u2
  rw [if_pos ⟨rfl, rfl⟩]
theorem xm_mk_ao (c N : Nat) (S : xm_S) (p q : Nat) (h : ¬ (p = c ∧ q = xm_n S 0 c)) : xm_a (xm_mk c N S) p q = xm_a S p q := by
  show xm_u2 _ c _ _ p q = _
  unfold xm_u2
  rw [if_neg h]
theorem xm_mk_eqat (c N : Nat) (S : xm_S) (c' k' : Nat) (hc : c ≤ 15) (hk : k' < xm_n S 0 c') (hc' : c' ≤ 17) : xm_eqat S (xm_mk c N S) c' k' := by
  have hne : ¬ (c' = c ∧ k' = xm_n S 0 c) := fun z => by rw [z.1, z.2] at hk; exact Nat.lt_irrefl _ hk
  refine ⟨fun j => ?_, fun j => ?_, ?_, fun h12 => ⟨?_, ?_, ?_, fun _ => rfl⟩⟩
  · show (if c' = c ∧ k' = xm_n S 0 c then 0 else xm_i S c' k' j) = _
    rw [if_neg hne]
  · show (if c' = c ∧ k' = xm_n S 0 c then none else xm_r S c' k' j) = _
    rw [if_neg hne]
  · exact xm_mk_o c N S _ _ (by omega) (fun z => hne ⟨by omega, z.2⟩) (by omega)
  · exact xm_mk_o c N S _ _ (by omega) (by omega) (fun z => hne ⟨by omega, by rw [z.2.2, z.1]⟩)
  · exact xm_mk_o c N S _ _ (by omega) (by omega) (fun z => hne ⟨by omega, by rw [z.2.2, z.1]⟩)
  · exact xm_mk_ao c N S _ _ (by omega)
theorem xm_rel.mk {D : va_G} {g : xm_G} {α : Nat → Nat → Nat} {base : Nat} {S : xm_S} {U : State} {H H' : Heap} {c N : Nat} (h : xm_rel D g α base S U H) (hc : c ≤ 15) (hα : α c (xm_n S 0 c) = xm_n S 0 100)
    (hz : H'.size = H.size + 1) (ho : ∀ q, q < H.size → H'[q]? = H[q]?) (hob : xm_obj D g α (xm_mk c N S) c (xm_n S 0 c) H') : xm_rel D g α base (xm_mk c N S) U H' := by
  obtain ⟨h1, h2, h3, h4, h5, h6⟩ := h
  have old : ∀ c' k, c' ≤ 15 → k < xm_n (xm_mk c N S) 0 c' → k < xm_n S 0 c' ∨ (c' = c ∧ k = xm_n S 0 c) := fun c' k g1 g2 => by
    by_cases hq : c' = c
    · rw [hq, xm_mk_c] at g2
      rcases Nat.lt_or_ge k (xm_n S 0 c) with h3 | h3
      · left; rw [hq]; exact h3
      · right; exact ⟨hq, by omega⟩
    · rw [xm_mk_0 _ _ _ _ hq (by omega)] at g2
      exact Or.inl g2
  refine ⟨⟨?_, by omega⟩, fun c' k hc' hk => ?_, fun c' k c'' k' hc' hc'' hk hk' e => ?_, fun k hk h10 => ?_, fun c' k hc' hk => ?_, fun c' k hc' hk => ?_⟩
  · rw [xm_mk_100 _ _ _ (by omega), hz, h1.1]
  · rcases old c' k hc' hk with g1 | ⟨rfl, rfl⟩
    · obtain ⟨a1, a2, a3⟩ := h2 c' k hc' g1
      rw [xm_mk_ao _ _ _ _ _ (fun z => by rw [z.1, z.2] at g1; exact Nat.lt_irrefl _ g1)]
      exact ⟨a1, a2, by omega⟩
    · rw [xm_mk_a, hα]
      exact ⟨rfl, by omega, by omega⟩
  · rcases old c' k hc' hk with g1 | ⟨rfl, rfl⟩ <;> rcases old c'' k' hc'' hk' with g2 | ⟨e2, e3⟩
    · exact h3 c' k c'' k' hc' hc'' g1 g2 e
    · have := (h2 c' k hc' g1).2.2
      rw [e, e2, e3, hα] at this
      omega
    · have := (h2 c'' k' hc'' g2).2.2
      rw [← e, hα] at this
      omega
    · exact ⟨e2.symm, e3.symm⟩
  · rcases old 12 k (by omega) hk with g1 | ⟨g1, g2⟩
    · have e2 : xm_n (xm_mk c N S) 2 k = xm_n S 2 k := xm_mk_o c N S _ _ (by omega) (by omega) (by omega)
      have ea : ∀ k, xm_a (xm_mk c N S) 18 k = xm_a S 18 k := fun k => xm_mk_ao c N S _ _ (by omega)
      rw [e2] at h10
      obtain ⟨a1, a2, a3, a4⟩ := h4 k g1 h10
      rw [ea]
      refine ⟨a1, by omega, fun c' k' hc' hk' => ?_, fun k' hk' h10' e => ?_⟩
      · rcases old c' k' hc' hk' with g3 | ⟨rfl, rfl⟩
        · exact a3 c' k' hc' g3
        · rw [hα]; omega
      · rw [ea] at e
        rcases old 12 k' (by omega) hk' with g3 | ⟨g3, g4⟩
        · rw [show xm_n (xm_mk c N S) 2 k' = xm_n S 2 k' from xm_mk_o c N S _ _ (by omega) (by omega) (by omega)] at h10'
          exact a4 k' g3 h10' e
        · subst g3
          rw [g4, xm_mk_l0 N S 2 (Or.inr rfl)] at h10'
          omega
    · subst g1
      rw [g2, xm_mk_l0 N S 2 (Or.inr rfl)] at h10
      omega
  · rcases old c' k hc' hk with g1 | ⟨rfl, rfl⟩
    · refine (h5 c' k hc' g1).kept hc' (xm_mk_eqat c N S c' k hc g1 (by omega)) (ho _ (h2 c' k hc' g1).2.2) (fun e h10 => ho _ ?_)
      subst e
      exact (h4 k g1 h10).2.1
    · exact hob
  · rw [xm_mk_0 _ _ _ _ (by omega) (by omega)] at hk
    obtain ⟨a1, a2⟩ := h6 c' k hc' hk
    have e := xm_mk_eqat c N S c' k hc hk (by omega)
    rw [e.2.2.1, show xm_i (xm_mk c N S) c' k = xm_i S c' k from funext e.1]
    exact ⟨a1, a2.kept (ho _ (by omega))⟩
section XMA
variable {p : Program} {l : Launch} {e : Env} {R : Room} {s : State} {m : MethodId} {args : Array Value} {below : List Frame} {meth : Method} {c : Code} {Q : State → Prop} {cc : ByteArray} {nL o : Nat} {D : va_G} {g : xm_G} {α : Nat → Nat → Nat} {base t0 : Nat} {pc : Nat} {L : xm_L} {st : List xm_V} {S : xm_S} {ini : Bool} {rt : Option FieldType} {raw : Instr} {len : Nat}
theorem xm_cell13 {H : Heap} (h : xm_rel D g α base S s H) {k : Nat} (hk : k < xm_n S 0 13) : H[α 13 k]? = some (arrV g.1 (xm_n S 23 k) (fun j => .int (xm_i S 13 k j))) := h.2.2.2.2.1 13 k (by decide) hk
theorem xm_cell14 {H : Heap} (h : xm_rel D g α base S s H) {k : Nat} (hk : k < xm_n S 0 14) : H[α 14 k]? = some (arrV g.2.1 (xm_n S 24 k) (fun j => .int (xm_i S 14 k j))) := h.2.2.2.2.1 14 k (by decide) hk
theorem xm_cell15 {H : Heap} (h : xm_rel D g α base S s H) {k : Nat} (hk : k < xm_n S 0 15) : H[α 15 k]? = some (arrV g.2.2.1 (xm_n S 25 k) (fun j => xm_conc α (xm_rf 2 (xm_r S 15 k j)))) := h.2.2.2.2.1 15 k (by decide) hk
theorem xm_w_ild {i : Int32} {ck k j : Nat} (C : xm_ctx p s m args c cc nL o) (hd : decode cc pc = .ok (raw, len)) (hil : xm_il raw = 0 ∨ len = xm_il raw) (E : xm_env D g α base s) (hk : xm_lk o pc ini rt raw (.iaload) = true) (hc : ck = 13 ∨ ck = 16 ∨ ck = 17) (hal : k < xm_n S 0 ck) (hj : xm_ix i (xm_n S (10 + ck) k) = some j) (kk : xm_W p l e R s m args below meth c Q nL D g α base t0 (pc + len) L (.inl (xm_i S ck k j) :: st) S) : xm_W p l e R s m args below meth c Q nL D g α base t0 pc L (.inl i :: .inr (some (ck, k)) :: st) S := by
  intro H locs ls hR hS hl
  obtain ⟨hx, hb, -, hown, hts⟩ := C
  have er : raw = .iaload := of_decide_eq_true hk
  subst er
  obtain rfl := xm_il1 hil rfl
  obtain ⟨j1, j2, j3⟩ := xm_ix_lt hj
  rcases hc with rfl | hc
  · refine W.iald (v := .int (xm_i S 13 k j)) hx hb (xm_cell13 hR hal) ((E.1.2 0 (g.1, .int) rfl).1 _ _) (fun q => by cases q) (by rw [arrV_size]; exact j3) (by rw [← j2, arrV_read _ _ j1]) rfl rfl hd (kk H locs ls hR hS hl)
  · obtain ⟨scr, x1, x2, x3, x4, x5⟩ := (hR.2.2.2.2.2 ck k hc hal).2
    exact W.iald (v := .int (xm_i S ck k j)) hx hb x1 x2 x3 (by rw [x4]; exact j3) (by rw [← j2]; exact x5 j j1) rfl rfl hd (kk H locs ls hR hS hl)
theorem xm_w_zld {i : Int32} {k j : Nat} (C : xm_ctx p s m args c cc nL o) (hd : decode cc pc = .ok (raw, len)) (hil : xm_il raw = 0 ∨ len = xm_il raw) (E : xm_env D g α base s) (hk : xm_lk o pc ini rt raw (.baload) = true) (hal : k < xm_n S 0 14) (hj : xm_ix i (xm_n S 24 k) = some j) (kk : xm_W p l e R s m args below meth c Q nL D g α base t0 (pc + len) L (.inl (xm_i S 14 k j) :: st) S) : xm_W p l e R s m args below meth c Q nL D g α base t0 pc L (.inl i :: .inr (some (14, k)) :: st) S := by
  intro H locs ls hR hS hl
  obtain ⟨hx, hb, -, hown, hts⟩ := C
  have er : raw = .baload := of_decide_eq_true hk
  subst er
  obtain rfl := xm_il1 hil rfl
  obtain ⟨j1, j2, j3⟩ := xm_ix_lt hj
  exact W.zald (v := .int (xm_i S 14 k j)) hx hb (xm_cell14 hR hal) ((E.1.2 1 (g.2.1, .boolean) rfl).1 _ _) (fun q => by cases q) (by rw [arrV_size]; exact j3) (by rw [← j2, arrV_read _ _ j1]) rfl rfl hd (kk H locs ls hR hS hl)
theorem xm_w_ald {i : Int32} {k j : Nat} (C : xm_ctx p s m args c cc nL o) (hd : decode cc pc = .ok (raw, len)) (hil : xm_il raw = 0 ∨ len = xm_il raw) (E : xm_env D g α base s) (hk : xm_lk o pc ini rt raw (.aaload) = true) (hal : k < xm_n S 0 15) (hj : xm_ix i (xm_n S 25 k) = some j) (kk : xm_W p l e R s m args below meth c Q nL D g α base t0 (pc + len) L (xm_rf 2 (xm_r S 15 k j) :: st) S) : xm_W p l e R s m args below meth c Q nL D g α base t0 pc L (.inl i :: .inr (some (15, k)) :: st) S := by
  intro H locs ls hR hS hl
  obtain ⟨hx, hb, -, hown, hts⟩ := C
  have er : raw = .aaload := of_decide_eq_true hk
  subst er
  obtain rfl := xm_il1 hil rfl
  obtain ⟨j1, j2, j3⟩ := xm_ix_lt hj
  exact W.aald (v := xm_conc α (xm_rf 2 (xm_r S 15 k j))) (ty := .object "WaterWorks$Call") hx hb (xm_cell15 hR hal) ((E.1.2 2 (g.2.2.1, .object "WaterWorks$Call") rfl).1 _ _) rfl (fun q => by cases q) (by rw [arrV_size]; exact j3) (by rw [← j2, arrV_read _ _ j1]) rfl rfl hd (kk H locs ls hR hS hl)
theorem xm_w_ist {i : Int32} {k j : Nat} {x : Int32} (C : xm_ctx p s m args c cc nL o) (hd : decode cc pc = .ok (raw, len)) (hil : xm_il raw = 0 ∨ len = xm_il raw) (E : xm_env D g α base s) (hk : xm_lk o pc ini rt raw (.iastore) = true) (hal : k < xm_n S 0 13) (hj : xm_ix i (xm_n S 23 k) = some j)  (kk : xm_W p l e R s m args below meth c Q nL D g α base t0 (pc + len) L st (xm_si S 13 k j x)) : xm_W p l e R s m args below meth c Q nL D g α base t0 pc L (.inl x :: .inl i :: .inr (some (13, k)) :: st) S := by
  intro H locs ls hR hS hl
  obtain ⟨hx, hb, -, hown, hts⟩ := C
  have er : raw = .iastore := of_decide_eq_true hk
  subst er
  obtain rfl := xm_il1 hil rfl
  obtain ⟨j1, j2, j3⟩ := xm_ix_lt hj
  refine W.iast hx hb (xm_cell13 hR hal) ((E.1.2 0 (g.1, .int) rfl).1 _ _) (fun q => by cases q) (by rw [arrV_size]; exact j3) rfl rfl hd (fun H' a1 a2 a3 => ?_)
  rw [← j2] at a1 ⊢
  refine kk H' _ ls (hR.put (c := 13) (k := k) (by decide) hal (by decide) rfl rfl rfl (fun p q r => xm_u3_or _ _ _ _ _ p q r) (fun p q r => Or.inr rfl) a2 a3 ?_) (hS.put a2 a3 (hR.2.1 13 k (by decide) hal).2.1) hl
  show H'[α 13 k]? = some (arrV g.1 (xm_n S 23 k) (fun q => .int (xm_u3 S.1 13 k j x 13 k q)))
  rw [a1, arrV_store]
  congr 2
  funext q
  show updV (fun j => .int (xm_i S 13 k j)) j (.int x) q = .int (xm_u3 S.1 13 k j x 13 k q)
  unfold updV xm_u3
  by_cases hq : q = j
  · rw [if_pos hq, if_pos ⟨rfl, rfl, hq⟩]
  · rw [if_neg hq, if_neg (fun z => hq z.2.2)]
theorem xm_w_zst {i : Int32} {k j : Nat} {x : Int32} (C : xm_ctx p s m args c cc nL o) (hd : decode cc pc = .ok (raw, len)) (hil : xm_il raw = 0 ∨ len = xm_il raw) (E : xm_env D g α base s) (hk : xm_lk o pc ini rt raw (.bastore) = true) (hal : k < xm_n S 0 14) (hj : xm_ix i (xm_n S 24 k) = some j) (hx01 : x = 0 ∨ x = 1) (kk : xm_W p l e R s m args below meth c Q nL D g α base t0 (pc + len) L st (xm_si S 14 k j x)) : xm_W p l e R s m args below meth c Q nL D g α base t0 pc L (.inl x :: .inl i :: .inr (some (14, k)) :: st) S := by
  intro H locs ls hR hS hl
  obtain ⟨hx, hb, -, hown, hts⟩ := C
  have er : raw = .bastore := of_decide_eq_true hk
  subst er
  obtain rfl := xm_il1 hil rfl
  obtain ⟨j1, j2, j3⟩ := xm_ix_lt hj
  refine W.zast hx hb (xm_cell14 hR hal) ((E.1.2 1 (g.2.1, .boolean) rfl).1 _ _) (fun q => by cases q) (by rw [arrV_size]; exact j3) rfl rfl hd (fun H' a1 a2 a3 => ?_)
  rw [← j2] at a1 ⊢
  refine kk H' _ ls (hR.put (c := 14) (k := k) (by decide) hal (by decide) rfl rfl rfl (fun p q r => xm_u3_or _ _ _ _ _ p q r) (fun p q r => Or.inr rfl) a2 a3 ?_) (hS.put a2 a3 (hR.2.1 14 k (by decide) hal).2.1) hl
  show H'[α 14 k]? = some (arrV g.2.1 (xm_n S 24 k) (fun q => .int (xm_u3 S.1 14 k j x 14 k q)))
  rw [a1, show narrow .boolean (.int x) = .int x by rcases hx01 with rfl | rfl <;> rfl, arrV_store]
  congr 2
  funext q
  show updV (fun j => .int (xm_i S 14 k j)) j (.int x) q = .int (xm_u3 S.1 14 k j x 14 k q)
  unfold updV xm_u3
  by_cases hq : q = j
  · rw [if_pos hq, if_pos ⟨rfl, rfl, hq⟩]
  · rw [if_neg hq, if_neg (fun z => hq z.2.2)]
theorem xm_w_ast {i : Int32} {k j : Nat} {ek : Nat} (C : xm_ctx p s m args c cc nL o) (hd : decode cc pc = .ok (raw, len)) (hil : xm_il raw = 0 ∨ len = xm_il raw) (E : xm_env D g α base s) (hk : xm_lk o pc ini rt raw (.aastore) = true) (hal : k < xm_n S 0 15) (hj : xm_ix i (xm_n S 25 k) = some j) (hek : ek < xm_n S 0 2) (kk : xm_W p l e R s m args below meth c Q nL D g α base t0 (pc + len) L st (xm_sr S 15 k j (some ek))) : xm_W p l e R s m args below meth c Q nL D g α base t0 pc L (.inr (some (2, ek)) :: .inl i :: .inr (some (15, k)) :: st) S := by
  intro H locs ls hR hS hl
  obtain ⟨hx, hb, -, hown, hts⟩ := C
  have er : raw = .aastore := of_decide_eq_true hk
  subst er
  obtain rfl := xm_il1 hil rfl
  obtain ⟨j1, j2, j3⟩ := xm_ix_lt hj
  have hob := hR.2.2.2.2.1 2 ek (by decide) hek
  unfold xm_obj at hob
  rw [if_pos (by decide)] at hob
  obtain ⟨cellV, g1, g2, g3, -⟩ := hob
  have hcls := (E.1.1 2 _ (xm_cl_at 2 (by decide))).2
  obtain ⟨kA, comp, k1, k2, k3, -⟩ := (E.1.2 2 (g.2.2.1, .object "WaterWorks$Call") rfl).2
  have hcomp : comp = D.1 2 := Option.some.inj (k3.symm.trans hcls.1)
  subst hcomp
  obtain ⟨kC, hkC, -⟩ := hcls.2
  refine W.aast hx hb (xm_cell15 hR hal) (fun q h => by cases h) (fun h => by cases h) k1 k2 rfl hkC ⟨fun z => j3 (Or.inl z), by rw [arrV_size]; rw [← j2]; exact j1⟩ g1 (fun q h => by rw [g3] at h; cases h) (by rw [g2]; exact hkC) (by rw [g2]; exact va_assign hcls) rfl rfl hd fun H' a1 a2 a3 => ?_
  rw [← j2] at a1 ⊢
  refine kk H' _ ls (hR.put (c := 15) (k := k) (by decide) hal (by decide) rfl rfl rfl (fun p q r => Or.inr rfl) (fun p q r => xm_u3_or _ _ _ _ _ p q r) a2 a3 ?_) (hS.put a2 a3 (hR.2.1 15 k (by decide) hal).2.1) hl
  show H'[α 15 k]? = some (arrV g.2.2.1 (xm_n S 25 k) (fun q => xm_conc α (xm_rf 2 (xm_u3 S.2.1 15 k j (some ek) 15 k q))))
  rw [a1, arrV_store]
  congr 2
  funext q
  show updV (fun j => xm_conc α (xm_rf 2 (xm_r S 15 k j))) j (.ref (α 2 ek)) q = xm_conc α (xm_rf 2 (xm_u3 S.2.1 15 k j (some ek) 15 k q))
  unfold updV xm_u3
  by_cases hq : q = j
  · rw [if_pos hq, if_pos ⟨rfl, rfl, hq⟩]
    rfl
  · rw [if_neg hq, if_neg (fun z => hq z.2.2)]
theorem xm_w_alen {ck k : Nat} (C : xm_ctx p s m args c cc nL o) (hd : decode cc pc = .ok (raw, len)) (hil : xm_il raw = 0 ∨ len = xm_il raw) (E : xm_env D g α base s) (hk : xm_lk o pc ini rt raw (.arraylength) = true) (hc : 13 ≤ ck ∧ ck ≤ 17) (hal : k < xm_n S 0 ck) (kk : xm_W p l e R s m args below meth c Q nL D g α base t0 (pc + len) L (.inl (nI (xm_n S (10 + ck) k)) :: st) S) : xm_W p l e R s m args below meth c Q nL D g α base t0 pc L (.inr (some (ck, k)) :: st) S := by
  intro H locs ls hR hS hl
  obtain ⟨hx, hb, -, hown, hts⟩ := C
  have er : raw = .arraylength := of_decide_eq_true hk
  subst er
  obtain rfl := xm_il1 hil rfl
  have h5 : ck = 13 ∨ ck = 14 ∨ ck = 15 ∨ (ck = 16 ∨ ck = 17) := by omega
  rcases h5 with rfl | rfl | rfl | h5
  · exact W.alen (ty := .int) hx hb (xm_cell13 hR hal) ((E.1.2 0 (g.1, .int) rfl).1 _ _) (by rw [arrV_size]; rfl) rfl rfl hd (kk H locs ls hR hS hl)
  · exact W.alen (ty := .boolean) hx hb (xm_cell14 hR hal) ((E.1.2 1 (g.2.1, .boolean) rfl).1 _ _) (by rw [arrV_size]; rfl) rfl rfl hd (kk H locs ls hR hS hl)
  · exact W.alen (ty := .object "WaterWorks$Call") hx hb (xm_cell15 hR hal) ((E.1.2 2 (g.2.2.1, .object "WaterWorks$Call") rfl).1 _ _) (by rw [arrV_size]; rfl) rfl rfl hd (kk H locs ls hR hS hl)
  · obtain ⟨scr, x1, x2, x3, x4, x5⟩ := (hR.2.2.2.2.2 ck k h5 hal).2
    exact W.alen (ty := .int) hx hb x1 x2 (by rw [x4]; rfl) rfl rfl hd (kk H locs ls hR hS hl)
end XMA
