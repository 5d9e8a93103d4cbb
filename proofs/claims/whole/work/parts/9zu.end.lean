/-! ===== THE ROOM AT THE END ===== -/
section
theorem zu_xs {f : Nat → Nat} {M : Nat} (h1 : ∀ k, k < 12 → f k ≤ M) : ∀ n, n ≤ 12 → xs f n ≤ n * M
  | 0, _ => Nat.zero_le _
  | n + 1, hn => by
    have e := zu_xs h1 n (by omega)
    have g := h1 n (by omega)
    show xs f n + f n ≤ _
    rw [Nat.succ_mul]
    omega
theorem zu_xs2 {f : Nat → Nat} {M N : Nat} (h1 : ∀ k, k < 12 → f k ≤ M) (h2 : ∀ k, 12 ≤ k → k < N → f k ≤ 10) : ∀ m, 12 + m ≤ N → xs f (12 + m) ≤ 12 * M + 10 * m
  | 0, _ => zu_xs h1 12 (Nat.le_refl _)
  | m + 1, hm => by
    have e := zu_xs2 h1 h2 m (by omega)
    have g := h2 (12 + m) (by omega) (by omega)
    show xs f (12 + m) + f (12 + m) ≤ _
    omega
theorem zu_room {S : xm_S} {A : y_A} {t b : Nat} (h : kK S A t) (g : xR b 0 S) : xm_n S 0 100 - b ≤ 600000 ∧ xm_n S 0 101 ≤ 7302250 := by
  obtain ⟨hR, hI⟩ := h
  obtain ⟨b0, b1, b2, b3, b4, b5, b6, b7, b8, b9, b10, b11⟩ : k_bnd S := hR.1.1.2.2.1
  obtain ⟨o1, o2, o3, o4, o5, o6, o7, o8, o9, o10, o11, o12, o13, o14, o15, o16⟩ : k_obj S := hI.2.2.2.1
  obtain ⟨-, c1, c2⟩ : k_cap S := hI.2.2.2.2.1
  have h3 : xs (fun k => xm_n S 2 k) (xm_n S 0 12) ≤ 12 * 9000 + 10 * (xm_n S 0 12 - 12) := by
    have e : 12 + (xm_n S 0 12 - 12) = xm_n S 0 12 := by omega
    have z := zu_xs2 (f := fun k => xm_n S 2 k) (M := 9000) (N := xm_n S 0 12) (fun k hk => Nat.le_trans (c1 k hk) (by omega)) (fun k hk hk2 => by
      show xm_n S 2 k ≤ 10
      rcases c2 k hk hk2 with ⟨z, -⟩ | z <;> omega) (xm_n S 0 12 - 12) (by omega)
    rw [e] at z
    exact z
  have h4 : xs (fun c => xm_n S 0 c) 16 ≤ 14000 := by
    show 0 + xm_n S 0 0 + xm_n S 0 1 + xm_n S 0 2 + xm_n S 0 3 + xm_n S 0 4 + xm_n S 0 5 + xm_n S 0 6 + xm_n S 0 7 + xm_n S 0 8 + xm_n S 0 9 + xm_n S 0 10 + xm_n S 0 11 + xm_n S 0 12 + xm_n S 0 13 + xm_n S 0 14 + xm_n S 0 15 ≤ 14000
    omega
  obtain ⟨g1, g2⟩ := g
  omega
end
/-! ===== THE LAW'S ENTRY ===== -/
section
def zu_S (sz N : Nat) (F : Nat → Int32) : xm_S := (fun c k j => if c = 16 then (kS_T.getD k []).getD j 0 else if c = 17 then F j else 0, fun _ _ _ => none, fun _ _ => (0, 0), fun a k => if a = 0 then (if k = 16 then 7 else if k = 17 then 1 else if k = 100 then sz else 0) else if a = 26 then (kS_T.getD k []).length else if a = 27 then N else 0, fun _ _ => 0)
theorem zu_l0 (sz N : Nat) (F : Nat → Int32) : l0 (zu_S sz N F) N F := by
  refine ⟨fun c hc => ?_, fun k hk => ⟨rfl, fun j hj => rfl⟩, Nat.le_refl 7, Nat.le_refl 1, rfl, fun j => rfl⟩
  show (if c = 16 then 7 else if c = 17 then 1 else if c = 100 then sz else 0) = 0
  rw [if_neg (by omega), if_neg (by omega), if_neg (by omega)]
theorem zu_M : xm_M[182]? = some (⟨"WaterWorksLaw", "law", "([I)Z"⟩, code, 4, (some .boolean), 13, 1, 1213) := by
  unfold xm_M
  rw [List.getElem?_append_right (by rw [xm_Mo_len]; exact Nat.le_refl _), xm_Mo_len]
  rfl
theorem zu_B : xm_B 182 = code := by unfold xm_B; rw [zu_M]
theorem zu_ML : xm_ML 182 = 4 := by unfold xm_ML; rw [zu_M]
theorem zu_ow : xm_ow 182 = 13 := by unfold xm_ow; rw [zu_M]
theorem zu_Y : xm_Y 182 = ⟨"WaterWorksLaw", "law", "([I)Z"⟩ := by unfold xm_Y; rw [zu_M]
theorem zu_al (sz N : Nat) (F : Nat → Int32) : xm_alL (zu_S sz N F) [some (.inr (some (17, 0))), none, none, none] := by
  intro v hv c k e
  rcases List.mem_cons.mp hv with hv | hv
  · cases hv
    cases e
    exact ⟨by decide, Nat.lt_succ_self 0⟩
  · rcases List.mem_cons.mp hv with hv | hv
    · cases hv
    · rcases List.mem_cons.mp hv with hv | hv
      · cases hv
      · rcases List.mem_cons.mp hv with hv | hv
        · cases hv
        · cases hv
theorem zu_rel {s : State} {D : va_G} {g : xm_G} {α : Nat → Nat → Nat} {τ : Nat → Nat} {b L : Nat} {F : Nat → Int32} (hτ : ∀ k, k < 7 → τ k < s.heap.size ∧ va_X (τ k) (kS_T.getD k []).length (fun j => (kS_T.getD k []).getD j 0) s s.heap) (h16 : ∀ k, k < 7 → α 16 k = τ k) (h17 : α 17 0 = b) (hX : va_X b L F s s.heap) (hb : b < s.heap.size) : xm_rel D g α s.heap.size (zu_S s.heap.size L F) s s.heap := by
  have h0 := (zu_l0 s.heap.size L F).1
  refine ⟨⟨rfl, Nat.le_refl _⟩, fun c k hc hk => absurd hk (by rw [h0 c hc]; exact Nat.not_lt_zero _), fun c k c' k' hc _ hk => absurd hk (by rw [h0 c hc]; exact Nat.not_lt_zero _), fun k hk => absurd hk (by rw [h0 12 (by decide)]; exact Nat.not_lt_zero _), fun c k hc hk => absurd hk (by rw [h0 c hc]; exact Nat.not_lt_zero _), fun c k hc hk => ?_⟩
  rcases hc with rfl | rfl
  · have hk7 : k < 7 := hk
    rw [h16 k hk7]
    exact hτ k hk7
  · have hk1 : k < 1 := hk
    obtain rfl : k = 0 := by omega
    rw [h17]
    exact ⟨hb, hX⟩
theorem zu_xR (sz N : Nat) (F : Nat → Int32) : xR sz 0 (zu_S sz N F) := ⟨by
  show sz ≤ sz + _ + _
  omega, Nat.zero_le _⟩
end
/-! THE CLAIM OUT OF ONE WALK OF THE LAW'S BODY. Your part is whole_start (and what it stands on); all else here is the same for every law, but numbers. -/
def R_law : String := "WaterWorksLaw"
def lw_P (b : Addr) (xs : List Int32) (args : Array Value) (s : State) : Prop := args = #[.ref b] ∧ s.IntsAt b xs ∧ xs.length ≤ 4096 ∧ (Jvm.Cond.and given_1 narrow_1).before args s = true
def lw_Q (_ : Array Value) (s : State) (o : Outcome) (t : State) : Prop := o = .returned (some (.int 1)) ∧ Framed s o t [] 600000 7302250
def lw_Z (below : List Frame) (a : Array Value) (s : State) : State → Prop := fun t => ∃ o, t.status = .running ∧ Ended t below o ∧ lw_Q a s o t
/-- the law's own end, with 1 on the stack, nothing written that was there before, its room as the claim has it -/
theorem lw_ret {p : Program} {l : Launch} {e : Env} {s : State} {m : MethodId} {below : List Frame} {meth : Method} {c : Code} {b : Nat} (hx : p.tables.exec = Jvm.exec) (hb : c.code = code) (hr : meth.sig.returnType = ret) (hlocks : meth.locks = false) {pc : Nat} {H : Heap} {ls : Array Slot} (hdg : decode code pc = .ok (.ireturn, 1)) : W p l e room_1 s m #[Value.ref b] below meth c H [] 600000 7302250 (lw_Z below #[Value.ref b] s) (F0 m pc ls [.int 1]) := by
  intro T hT X
  obtain ⟨fs, hret, hrun, hended, hW, hframe⟩ := X.leave (v := some (.int 1)) (hlocks := hlocks) (fun h => by rw [hr] at h; cases h)
  have hmeth' : T.vm.method? m = some meth := X.method'
  refine ⟨T.setFrames fs, ?_, .returned (some (.int 1)), hrun, hended, rfl, ⟨_, rfl⟩, hW, hframe⟩
  jvm_step X.here [X.here.top, hx, hb, hdg, hmeth', hr, ret, narrow_b1]
  (try refine ⟨rfl, ?_⟩); (try refine ⟨rfl, ?_⟩)
  first | (intro acts; rw [hret _ acts rfl rfl rfl]) | rw [hret _ _ rfl rfl rfl]
  exact Steps.refl _
/-- what holds at the law's entry: the machine, the code, the tables' words (any of lw_tbl by 'hts w (by decide +kernel)'), the script of L ints xs at the cell b, what the Statement gives of the start (any of its parts by flat_of_before) -/
def lw_At (p : Program) (s : State) (m : MethodId) (meth : Method) (c : Code) (b L : Nat) (xs : Nat → Int32) : Prop :=
  p.tables.exec = Jvm.exec ∧ c.code = code ∧ meth.sig.returnType = ret ∧ c.maxLocals = 4 ∧ s.vm.findClass R_law = some m.cls ∧ (∀ w ∈ lw_tbl, w.before #[Value.ref b] s = true) ∧ va_X b L xs s s.heap ∧ b < s.heap.size ∧ meth.locks = false ∧ (Jvm.Cond.and given_1 narrow_1).before #[Value.ref b] s = true
set_option maxRecDepth 20000 in
/-- from the entry, for every script of at most 4096 ints, the law comes to its end with true -/
theorem whole_start {p : Program} {e : Env} {s : State} {m : MethodId} {below : List Frame} {meth : Method} {c : Code} (l : Launch) {b L : Nat} {xs : Nat → Int32} (hL : L ≤ 4096) (C0 : lw_At p s m meth c b L xs) : W p l e room_1 s m #[Value.ref b] below meth c s.heap [] 0 0 (lw_Z below #[Value.ref b] s) (entryFrame m ([Value.ref b] : List Value).toArray 4) := by
  obtain ⟨hx, hb, hr, hml, hown, hts, hX, hbl, hlocks, hgv⟩ := C0
  obtain ⟨D, g, τ, hτ, hE⟩ := zt_env hts hgv
  obtain ⟨n, r, S', hrun, hr1, A', t', hK⟩ := lw_whole hL (zu_l0 s.heap.size L xs)
  subst hr1
  obtain ⟨α, a15, a16, a17⟩ : ∃ α : Nat → Nat → Nat, (∀ c k, c ≤ 15 → α c k = xm_a S' c k) ∧ (∀ k, k < 7 → α 16 k = τ k) ∧ α 17 0 = b := ⟨fun c k => if c ≤ 15 then xm_a S' c k else if c = 16 then τ k else b, fun c k hc => if_pos hc, fun k _ => rfl, rfl⟩
  have hal := (zu_l0 s.heap.size L xs).al
  have hLal := zu_al s.heap.size L xs
  obtain ⟨hcells, hslots⟩ := zu_room hK (xR_run hal hLal (xm_alst.nil _) hrun (zu_xR s.heap.size L xs))
  have hR := zu_rel (D := D) (g := g) hτ a16 a17 hX hbl
  have hC : xm_ctx p s m #[Value.ref b] c (xm_B 182) (xm_ML 182) (xm_ow 182) := by
    rw [zu_B, zu_ML, zu_ow]
    exact ⟨hx, hb, hml, hown, fun w hw => hts w (xm_tb_of hw)⟩
  have K := xm_snd l D g α s.heap.size n 1001 182 0 [some (.inr (some (17, 0))), none, none, none] [] (zu_S s.heap.size L xs) (some (.inl 1)) S' hrun (by decide) hal hLal (xm_alst.nil _) zu_ML.symm (fun c k hc _ => a15 c k hc) p e room_1 s m #[Value.ref b] below meth c (lw_Z below #[Value.ref b] s) 0 hC (hE α a16) (fun h => by rw [zu_Y] at h; exact absurd h (by decide)) (Nat.zero_le _) (by decide) (by decide) hcells hslots (by
    intro pc' H' locs' ls' hret hR' hS'
    have hd : decode (xm_B 182) pc' = .ok (.ireturn, 1) := hret.1
    rw [zu_B] at hd
    exact va_forget hS'.2.2 (W.widen hcells hslots (lw_ret hx hb hr hlocks hd)))
  have hl : lv_has ((lg_sl [Value.ref b] ++ List.replicate (4 - (lg_sl [Value.ref b]).length) Slot.unset).toArray) (xm_ML 182) (xm_lvs α [some (.inr (some (17, 0))), none, none, none]) := by
    have z := xm_entry α (as := [.inr (some (17, 0))]) (n := 4) (by decide)
    rw [show ([.inr (some (17, 0))] : List xm_V).map (xm_conc α) = [Value.ref b] from congrArg (fun q => [Value.ref q]) a17] at z
    rw [zu_ML]
    exact z
  have K2 := K s.heap [] _ hR va_S.rf hl
  rw [lg_entry_eq]
  have z1 : xm_n (zu_S s.heap.size L xs) 0 100 - s.heap.size = 0 := Nat.sub_self _
  have z2 : xm_n (zu_S s.heap.size L xs) 0 101 - 0 = 0 := rfl
  rw [z1, z2] at K2
  exact K2
set_option maxHeartbeats 4000000 in
theorem lw_walk (l : Launch) (b : Addr) (xs : List Int32) : MetFree l x (headSpec (Jvm.Cond.code x code maxLocals ret :: tables_1) room_1) (lw_P b xs) (fun _ _ _ _ _ => True) lw_Q := by
  refine MetFree.of_bodyS (code := code) (maxLocals := maxLocals) (ret := ret) (by decide) ?_ ?_
  · intro args s m h hn
    obtain ⟨meth, c, h1, h2, h3, h4, h5, h6, -, -⟩ := Cond.code_spec hn (atoms_spec (ws := Jvm.Cond.code x code maxLocals ret :: tables_1) h _ List.mem_cons_self)
    exact ⟨meth, c, h1, h2, h3, h4, h5, h6⟩
  · intro p e s m args below meth c s₁ B hml0 hP _
    obtain ⟨rfl, hx, hbd, hgv⟩ := hP
    obtain ⟨scr, harrAt, hlist, hof, hsmall⟩ := hx
    obtain ⟨hcb, hkn, -, -⟩ := State.arrayAt?_spec harrAt
    have hown : s.vm.findClass R_law = some m.cls := findClass_of_methodNamed B.named
    have hts0 : ∀ c ∈ (Jvm.Cond.code x code maxLocals ret :: tables_1), c.before #[Value.ref b] s = true := atoms_spec (ws := Jvm.Cond.code x code maxLocals ret :: tables_1) B.pre
    have hts : ∀ w ∈ lw_tbl, w.before #[Value.ref b] s = true := k2_hts_sels lw_privs (fun w hw => hts0 w (List.mem_cons_of_mem _ hw)) lw_privs_ok
    have hml : c.maxLocals = 4 := B.maxLocals_eq (hts0 _ List.mem_cons_self)
    have X₀ : Stand p l e room_1 s m #[Value.ref b] below meth c s₁ [] 0 0 := Stand.of_body B
    have hh0 : s₁.heap = s.heap := by rw [B.state]; rfl
    have hsz : scr.slots.size = xs.length := by rw [← Array.length_toList, hlist, List.length_map]
    have hval : ∀ j : Nat, j < xs.length → scr.slots[j]? = some (.int (xs.getD j 0)) := fun j hj => by
      rw [← Array.getElem?_toList, hlist]
      simp [hj]
    have hbl : b < s.heap.size := (Array.getElem?_eq_some_iff.mp hcb).1
    have hX : va_X b xs.length (fun j => xs.getD j 0) s s.heap := ⟨scr, hcb, hof, hkn, hsz, hval⟩
    have K : W p l e room_1 s m #[Value.ref b] below meth c s₁.heap [] 0 0 (lw_Z below #[Value.ref b] s) (entryFrame m ([Value.ref b] : List Value).toArray 4) := by
      rw [hh0]
      exact whole_start l hbd ⟨B.exec, B.bytes, B.returns, hml, hown, hts, hX, hbl, B.notSynchronized, hgv⟩
    obtain ⟨t, a1, o, b1, b2, b3⟩ := K s₁ rfl X₀
    exact ⟨t, o, a1, b1, b2, b3⟩
theorem lw_pre_spec {args : Array Value} {s : State} (h : (Jvm.Cond.and given_1 narrow_1).before args s = true) (hr : rest_1_c.before args s = true) : ∃ (b : Addr) (xs : List Int32), lw_P b xs args s := by
  have hs := flat_of_before _ h
  have hq := flat_of_before _ hr
  have hc : (Cond.count 1).before args s = true := hs _ (by decide +kernel)
  have harr : (Cond.arrayOf (.arg 0) .int).before args s = true := hs _ (by decide +kernel)
  have hle : (Cond.le (.length (.arg 0)) (.int 4096)).before args s = true := hs _ (by decide +kernel)
  have hlen : (Cond.isInt (.length (.arg 0))).before args s = true := hq _ (by decide +kernel)
  have hall : (Cond.all (.arg 0) (.isInt (.elem (.arg 0) (.index 0)))).before args s = true := hq _ (by decide +kernel)
  obtain ⟨b, xs, hb, hx⟩ := State.ints_of_pre rfl harr hlen hall
  have hsm : xs.length < 2 ^ 31 := hx.choose_spec.2.2.2
  have hev : (Term.length (.arg 0)).eval args s none [] s = some (.int xs.length.toInt32) := hx.length_eval hb
  have hv := Cond.le_ints hev (show (Term.int 4096).eval args s none [] s = some (.int 4096) from rfl)
  have hd : xs.length.toInt32 ≤ 4096 := by
    simpa [Cond.before, Cond.holds, hv] using hle
  have hN : xs.length ≤ 4096 := (Int32.ofNat_le_ofNat hsm (by decide)).mp (show Int32.ofNat xs.length ≤ Int32.ofNat 4096 from hd)
  exact ⟨b, xs, Cond.one_arg hc (show args[0]? = some (.ref b) from hb), hx, hN, h⟩
theorem lw_comes (l : Launch) : Comes l x (Jvm.Cond.code x code maxLocals ret :: tables_1) room_1 (fun tb e args s => Calls_1 tb e args s ∧ rest_1 tb e args s ∧ Pre_1 tb e args s)
    (fun _ _ args s o t => lw_Q args s o t) := by
  intro p e ha hc hk s m args below hf hfit hheap happ hpre
  obtain ⟨b, xs, hP⟩ := lw_pre_spec hpre.2.2 hpre.2.1
  obtain ⟨k, o, h1, h2, h3, hQ⟩ := lw_walk l b xs p e ha hc hk s m args below hf ((Spec.applies_iff_loose hf).mp happ).1 hP trivial
  exact ⟨k, o, h1, h2, h3, hQ⟩
theorem lw_frame {s t : State} {o : Outcome} {args : Array Value} (h : Framed s o t [] 600000 7302250) :
    Framed s o t (fieldLocs frame_1_writes args s ++ arrayLocs frame_1_arrays args s ++ staticLocs frame_1_statics s) 600000 7302250 := h
theorem lw_limb (L : Cond) (hL : ∀ (args : Array Value) (s t : State), L.after args s (.returned (some (.int 1))) t = true) :
    ArmFor flags0 classFile x code maxLocals ret World_1 tables_1 room_1 Calls_1 rest_1 Pre_1
      (fun tb e a s o t => postC L tb e a s o t ∧ Framed s o t (fieldLocs frame_1_writes a s ++ arrayLocs frame_1_arrays a s ++ staticLocs frame_1_statics s) 600000 7302250) := by
  intro l _ _ _ p e ha hc hk s m args below hf hfit hheap happ hpre
  obtain ⟨k, o, h1, h2, h3, rfl, hF⟩ := lw_comes l p e ha hc hk s m args below hf hfit hheap happ hpre
  exact ⟨k, _, h1, h2, h3, hL args s _, lw_frame hF⟩
theorem i_vc : Claimed_1_1 ∧ Claimed_1_2 := ⟨lw_limb limb_1_1 (fun args s t => by simp [limb_1_1, Cond.after, Cond.holds, Cond.value]), lw_limb limb_1_2 (fun args s t => Cond.after_iff.mpr (by
  first | (rw [show limb_1_2 = Cond.eq .result (.int 1) from rfl, Cond.eq_ints (x := 1) (y := 1) rfl rfl]; simp; done) | (simp [limb_1_2, Cond.value, Term.eval]; done)))⟩
