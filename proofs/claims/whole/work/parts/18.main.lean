/-! ===== SOUNDNESS: every run of the abstract machine is a run of the machine ===== -/
theorem xm_mchk_at {l lo : List (Nat × Nat × Nat)} {ks : List Nat} (h : xm_mchk l lo ks = true) {o j q : Nat} (hm : xm_has l o j q = true) (hq : q < 256000) : ((o, j, q) ∈ lo ∨ (o, j, q) = (0, 51, 27931)) ∧ ks.contains (q / 256) = true ∧ q / 16 % 16 = xm_na (q / 256) ∧ q % 16 = (if xm_sm.contains (q / 256) then 0 else xm_ow (q / 256) + 1) ∧ q / 256 < 182 := by
  have h1 := List.all_eq_true.mp h _ (xm_has_in hm)
  rcases Bool.or_eq_true_iff.mp h1 with h1 | h1
  · exact absurd (of_decide_eq_true h1) (by simp only; omega)
  · simp only [Bool.and_eq_true, decide_eq_true_eq, Bool.or_eq_true] at h1
    obtain ⟨a, b, ⟨c, d⟩, e⟩ := h1
    refine ⟨?_, b, c, d, e⟩
    rcases a with a | a
    · exact Or.inl (xm_has_in a)
    · exact Or.inr a
theorem xm_rcv_of {kd : Nat} {as : List xm_V} (h : xm_rcv kd as = true) (h0 : kd ≠ 0) : ∃ c k as', as = .inr (some (c, k)) :: as' ∧ c + 1 = kd := by
  unfold xm_rcv at h
  rw [if_neg h0] at h
  split at h
  · exact ⟨_, _, _, rfl, of_decide_eq_true h⟩
  · cases h
theorem xm_sound {l : Launch} {D : va_G} {g : xm_G} {α : Nat → Nat → Nat} {base : Nat} (hck : ∀ mi, mi < 183 → xm_chk mi = true) (hI : xm_Intr l D g α base) : ∀ n, xm_Snd l D g α base n := by
  intro n
  induction n with
  | zero => intro d mi pc L st S r S' h; simp [xm_exec] at h
  | succ n ih =>
    intro d mi pc L st S r S' h hmi hal hL hst hln hα p e R s m args below meth c Q t0 C E hini ht hfr hlo hcells hslots hret
    have hwf := xm_P_wf hck
    rw [xm_exec_s] at h
    have hath : (xm_P mi pc).1 ≠ .athrow := by
      intro z
      have : xm_step (xm_P mi pc) L st S = none := by
        rw [show xm_P mi pc = (.athrow, (xm_P mi pc).2) by rw [← z]]
        rfl
      rw [this] at h
      cases h
    obtain ⟨raw, len, hd, hnx, hil, hk⟩ := xm_chk_at (hck mi hmi) hath
    have hP : xm_P mi pc = ((xm_P mi pc).1, pc + len) := by rw [← hnx]
    rcases hq : xm_step (xm_P mi pc) L st S with _ | (X | (r0 | z))
    · rw [hq] at h
      cases h
    · rw [hq] at h
      replace h : xm_exec xm_P xm_ML n d mi X.1 X.2.1 X.2.2.1 X.2.2.2 = some (r, S') := h
      obtain ⟨a1, a2, a3, a4⟩ := xm_step_al _ (hwf mi pc) hal hL hst hq
      obtain ⟨b1, -, -⟩ := xm_exec_al hwf _ _ _ _ _ _ _ _ a2 a3 a4 h
      replace b1 : xm_le X.2.2.2 S' := b1
      have hα2 : ∀ c k, c ≤ 15 → k < xm_n X.2.2.2 0 c → α c k = xm_a X.2.2.2 c k := fun c k hc hk => (hα c k hc (Nat.lt_of_lt_of_le hk (b1.1 c))).trans (b1.2 c k (by omega) hk)
      rw [hP] at hq
      have ht2 : t0 ≤ xm_n X.2.2.2 0 101 := Nat.le_trans ht (a1.1 101)
      have c1 := b1.1 100
      have c2 := b1.1 101
      have hc1 : xm_n X.2.2.2 0 100 - s.heap.size ≤ R.cells := by omega
      have hs1 : xm_n X.2.2.2 0 101 - t0 ≤ R.slots := by omega
      have hl0 : 400 ≤ R.locals := by omega
      have hf0 : 10 ≤ R.frames := by omega
      -- the locals keep their number: by the walk with a goal that is true anyway
      have hlen : X.2.1.length = xm_ML mi := (xm_w_step (Q := fun _ => True) (e := e) (meth := meth) (below := below) hI C E (fun hz => hini (of_decide_eq_true hz)) hd hil hk hq hal hL hst hln ht hf0 hl0 hα2 hc1 hs1 (fun H locs ls _ _ _ T _ _ => ⟨_, Steps.refl _, trivial⟩)).1
      have k2 := ih d mi X.1 X.2.1 X.2.2.1 X.2.2.2 r S' h hmi a2 a3 a4 hlen hα p e R s m args below meth c Q t0 C E hini ht2 hfr hlo hcells hslots hret
      exact (xm_w_step hI C E (fun hz => hini (of_decide_eq_true hz)) hd hil hk hq hal hL hst hln ht hf0 hl0 hα2 hc1 hs1 k2).2
    · rw [hq] at h
      cases h
      rw [hP] at hq
      obtain ⟨hr1, hr2⟩ := xm_ret_of hd hil hk hq
      intro H locs ls hR hS hl
      have k := hret pc H locs ls hr1 hR hS
      rw [hr2]
      have e1 : (r.toList.map (xm_conc α)) = (r.map (xm_conc α)).toList := by cases r <;> rfl
      rw [e1]
      exact k
    · rw [hq] at h
      replace h : (if d = 0 then none else (xm_exec xm_P xm_ML n (d - 1) z.1 0 (z.2.1.map some ++ List.replicate (xm_ML z.1 - z.2.1.length) none) [] S).bind fun y => xm_exec xm_P xm_ML n d mi z.2.2.1 z.2.2.2.1 (y.1.toList ++ z.2.2.2.2) y.2) = some (r, S') := h
      obtain ⟨a1, a2, a3⟩ := xm_step_al _ (hwf mi pc) hal hL hst hq
      rw [hP] at hq
      obtain ⟨q, hqi, hq0, hz, hq1, hq2, hrcv⟩ := xm_call_of hq
      subst hz
      by_cases hd0 : d = 0
      · rw [if_pos hd0] at h
        cases h
      rw [if_neg hd0] at h
      obtain ⟨y, hy, h⟩ := Option.bind_eq_some_iff.mp h
      obtain ⟨r1, S1⟩ := y
      replace hy : xm_exec xm_P xm_ML n (d - 1) (q / 256) 0 ((st.take (q / 16 % 16)).reverse.map some ++ List.replicate (xm_ML (q / 256) - (st.take (q / 16 % 16)).reverse.length) none) [] S = some (r1, S1) := hy
      replace h : xm_exec xm_P xm_ML n d mi (pc + len) L (r1.toList ++ st.drop (q / 16 % 16)) S1 = some (r, S') := h
      replace a1 : xm_alst S (st.take (q / 16 % 16)).reverse := a1
      replace a3 : xm_alst S (st.drop (q / 16 % 16)) := a3
      have hLn : xm_alL S ((st.take (q / 16 % 16)).reverse.map some ++ List.replicate (xm_ML (q / 256) - (st.take (q / 16 % 16)).reverse.length) none) := fun v hv => by
        rcases List.mem_append.mp hv with hv | hv
        · obtain ⟨w, hw, e⟩ := List.mem_map.mp hv
          cases e
          exact a1 _ hw
        · exact absurd (List.eq_of_mem_replicate hv) (by simp)
      obtain ⟨b1, b2, b3⟩ := xm_exec_al hwf _ _ _ _ _ _ _ _ hal hLn (xm_alst.nil S) hy
      replace b1 : xm_le S S1 := b1
      have hst2 : xm_alst S1 (r1.toList ++ st.drop (q / 16 % 16)) := fun v hv => by
        rcases List.mem_append.mp hv with hv | hv
        · exact b3 v (Option.mem_toList.mp hv)
        · exact (a3 v hv).up b1
      obtain ⟨d1, -, -⟩ := xm_exec_al hwf _ _ _ _ _ _ _ _ b2 (xm_alL.up b1 hL) hst2 h
      replace d1 : xm_le S1 S' := d1
      have hα2 : ∀ c k, c ≤ 15 → k < xm_n S1 0 c → α c k = xm_a S1 c k := fun c k hc hk => (hα c k hc (Nat.lt_of_lt_of_le hk (d1.1 c))).trans (d1.2 c k (by omega) hk)
      have ht2 : t0 ≤ xm_n S1 0 101 := Nat.le_trans ht (b1.1 101)
      have c1 := d1.1 100
      have c2 := d1.1 101
      have hc1 : xm_n S1 0 100 - s.heap.size ≤ R.cells := by omega
      have hs1 : xm_n S1 0 101 - t0 ≤ R.slots := by omega
      have k2 := ih d mi (pc + len) L _ S1 r S' h hmi b2 (xm_alL.up b1 hL) hst2 hln hα p e R s m args below meth c Q t0 C E hini ht2 hfr hlo hcells hslots hret
      have hstk : st = (st.take (q / 16 % 16)).reverse.reverse ++ st.drop (q / 16 % 16) := by rw [List.reverse_reverse, List.take_append_drop]
      have hlen : (st.take (q / 16 % 16)).reverse.length = q / 16 % 16 := by rw [List.length_reverse, List.length_take]; omega
      have hrest : (st.drop (q / 16 % 16)).length ≤ 8 := by rw [List.length_drop]; omega
      have hd1 : d - 1 + 11 = d + 10 := by omega
      have hfr1 : d - 1 + 11 ≤ R.frames := by omega
      have hlo1 : 40 * (d - 1 + 11) ≤ R.locals := by rw [hd1]; exact hlo
      rcases hqi with hqi | hqi | hqi
      · rw [hqi] at hk
        cases raw with
        | invokevirtual j =>
          obtain rfl := xm_il1 hil rfl
          obtain ⟨f1, f2, f3, f4, f5⟩ := xm_mchk_at xm_mv_ok (show xm_has xm_mv (xm_ow mi) j q = true from hk) hq0
          obtain ⟨m1, m2, m3, m4, m5, m6, m7, m8⟩ := xm_mf f5
          have hv3 := List.all_eq_true.mp xm_vm_ok (q / 256) (List.contains_iff_mem.mp f2)
          simp only [Bool.and_eq_true, decide_eq_true_eq, Bool.not_eq_true'] at hv3
          rw [if_neg (by rw [hv3.2.2]; decide)] at f4
          obtain ⟨c0, k0, as', e1, e2⟩ := xm_rcv_of hrcv (by omega)
          have e3 : c0 = xm_ow (q / 256) := by omega
          subst e3
          have hM := xm_met ih hy f5 (by rw [hlen, f3]; exact m7) hal a1 b1 hα2
          have hlk : Cond.methodLink (xm_cn (xm_ow mi)) j (xm_Y (q / 256)) ∈ xm_tb := by
            rcases f1 with f1 | f1
            · exact xm_mv_in _ f1
            · exfalso
              have e5 : q = 27931 := congrArg (fun z : Nat × Nat × Nat => z.2.2) f1
              rw [e5] at f2
              exact absurd f2 (by decide +kernel)
          have hal0 := (a1 _ (by rw [e1]; exact List.mem_cons_self) _ _ rfl).2
          rw [hstk]
          exact xm_w_callV C E hd hM f5 hlk f2 (by rw [hlen, f3]) e1 hal0 hrest b1 ht hfr1 hlo1 hc1 hs1 k2
        | _ => cases hk
      · rw [hqi] at hk
        cases raw with
        | invokespecial j =>
          obtain rfl := xm_il1 hil rfl
          obtain ⟨f1, f2, f3, f4, f5⟩ := xm_mchk_at xm_mp_ok (show xm_has xm_mp (xm_ow mi) j q = true from hk) hq0
          obtain ⟨m1, m2, m3, m4, m5, m6, m7, m8⟩ := xm_mf f5
          have hv4 := List.all_eq_true.mp xm_pm_ns (q / 256) (List.contains_iff_mem.mp f2)
          simp only [Bool.not_eq_true'] at hv4
          rw [if_neg (by rw [hv4]; decide)] at f4
          obtain ⟨c0, k0, as', e1, e2⟩ := xm_rcv_of hrcv (by omega)
          have hM := xm_met ih hy f5 (by rw [hlen, f3]; exact m7) hal a1 b1 hα2
          have hlk : Cond.methodLink (xm_cn (xm_ow mi)) j (xm_Y (q / 256)) ∈ xm_tb ∨ (xm_ow mi = 0 ∧ j = 51 ∧ xm_Y (q / 256) = ⟨"WaterWorks$Tower", "<init>", "()V"⟩) := by
            rcases f1 with f1 | f1
            · exact Or.inl (xm_mp_in _ f1)
            · right
              have e5 : q = 27931 := congrArg (fun z : Nat × Nat × Nat => z.2.2) f1
              have e6 : xm_ow mi = 0 := congrArg (fun z : Nat × Nat × Nat => z.1) f1
              have e7 : j = 51 := congrArg (fun z : Nat × Nat × Nat => z.2.1) f1
              rw [e5]
              exact ⟨e6, e7, by decide +kernel⟩
          rw [hstk]
          exact xm_w_callI C E hd hM f5 hlk f2 (by rw [hlen, f3]) e1 hrest b1 ht hfr1 hlo1 hc1 hs1 k2
        | _ => cases hk
      · rw [hqi] at hk
        cases raw with
        | invokestatic j =>
          obtain rfl := xm_il1 hil rfl
          obtain ⟨f1, f2, f3, f4, f5⟩ := xm_mchk_at xm_ms_ok (show xm_has xm_ms (xm_ow mi) j q = true from hk) hq0
          obtain ⟨m1, m2, m3, m4, m5, m6, m7, m8⟩ := xm_mf f5
          have hM := xm_met ih hy f5 (by rw [hlen, f3]; exact m7) hal a1 b1 hα2
          have hlk : Cond.methodLink (xm_cn (xm_ow mi)) j (xm_Y (q / 256)) ∈ xm_tb := by
            rcases f1 with f1 | f1
            · exact xm_ms_in _ f1
            · exfalso
              have e5 : q = 27931 := congrArg (fun z : Nat × Nat × Nat => z.2.2) f1
              rw [e5] at f2
              exact absurd f2 (by decide +kernel)
          rw [hstk]
          exact xm_w_callS C E hd hM f5 hlk f2 (by rw [hlen, f3]) hrest b1 ht hfr1 hlo1 hc1 hs1 k2
        | _ => cases hk
