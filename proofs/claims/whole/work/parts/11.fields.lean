/-! ===== fields, arrays, new objects ===== -/
def xm_envL (g : xm_G) (base : Nat) (s : State) : Prop := (∃ mi : Nat, va_Mi "[Ljava/lang/Object;" mi s) ∧ va_Dc s ∧ va_Z "java/util/ArrayList" "DEFAULTCAPACITY_EMPTY_ELEMENTDATA" "[Ljava/lang/Object;" (.ref g.2.2.2.2) (fun q => base ≤ q) s s.heap ∧ (∃ cell : Cell, s.heap[g.2.2.2.2]? = some cell ∧ s.isArrayOf cell (.object "java/lang/Object") ∧ cell.slots.size = 0) ∧ g.2.2.2.2 < base
def xm_env (D : va_G) (g : xm_G) (α : Nat → Nat → Nat) (base : Nat) (s : State) : Prop :=
  va_K D xm_cl (xm_tys g) s ∧ (va_AO "WaterWorks$Call" s ∧ va_AO "java/lang/Object" s) ∧ (∀ c, c < 12 → va_Nw (.castable (xm_cn c) "java/lang/Object") s) ∧ va_Nw (.methodLinkNest "WaterWorks" 51 ⟨"WaterWorks$Tower", "<init>", "()V"⟩ "WaterWorks") s ∧
  (∀ k, k < 7 → va_Z "WaterWorks" (xm_sname k) "[I" (.ref (α 16 k)) (fun q => base ≤ q) s s.heap) ∧ xm_envL g base s ∧ base ≤ s.heap.size
theorem xm_get_si (S : xm_S) (c k j j' : Nat) (x : Int32) (h : xm_ty c j < 2) : xm_get (xm_si S c k j x) c k j' = if j' = j then .inl x else xm_get S c k j' := by
  unfold xm_get
  by_cases hj : j' = j
  · subst hj
    rw [if_pos h, if_pos rfl]
    show (Sum.inl (xm_u3 S.1 c k j' x c k j') : xm_V) = _
    unfold xm_u3
    rw [if_pos ⟨rfl, rfl, rfl⟩]
  · rw [if_neg hj]
    have e : xm_u3 S.1 c k j x c k j' = S.1 c k j' := by
      unfold xm_u3
      rw [if_neg (fun z : c = c ∧ k = k ∧ j' = j => hj z.2.2)]
    show (if xm_ty c j' < 2 then (Sum.inl (xm_u3 S.1 c k j x c k j') : xm_V) else _) = _
    rw [e]
    rfl
theorem xm_get_sr (S : xm_S) (c k j j' : Nat) (x : Option Nat) (h : ¬ xm_ty c j < 2) : xm_get (xm_sr S c k j x) c k j' = if j' = j then xm_rf (xm_ty c j - 2) x else xm_get S c k j' := by
  unfold xm_get
  by_cases hj : j' = j
  · subst hj
    rw [if_neg h, if_pos rfl]
    show xm_rf (xm_ty c j' - 2) (xm_u3 S.2.1 c k j' x c k j') = _
    unfold xm_u3
    rw [if_pos ⟨rfl, rfl, rfl⟩]
  · rw [if_neg hj]
    have e : xm_u3 S.2.1 c k j x c k j' = S.2.1 c k j' := by
      unfold xm_u3
      rw [if_neg (fun z : c = c ∧ k = k ∧ j' = j => hj z.2.2)]
    show (if xm_ty c j' < 2 then _ else xm_rf (xm_ty c j' - 2) (xm_u3 S.2.1 c k j x c k j')) = _
    rw [e]
    rfl
theorem xm_u3_or {β : Type} (f : Nat → Nat → Nat → β) (c k j : Nat) (x : β) (p q r : Nat) : (p = c ∧ q = k) ∨ xm_u3 f c k j x p q r = f p q r := by
  by_cases h : p = c ∧ q = k
  · exact Or.inl h
  · right
    unfold xm_u3
    rw [if_neg (fun z => h ⟨z.1, z.2.1⟩)]
section XMF
variable {p : Program} {l : Launch} {e : Env} {R : Room} {s : State} {m : MethodId} {args : Array Value} {below : List Frame} {meth : Method} {c : Code} {Q : State → Prop} {cc : ByteArray} {nL o : Nat} {D : va_G} {g : xm_G} {α : Nat → Nat → Nat} {base t0 : Nat} {pc : Nat} {L : xm_L} {st : List xm_V} {S : xm_S} {ini : Bool} {rt : Option FieldType} {raw : Instr} {len : Nat}
theorem xm_w_getf {f ck k : Nat} (C : xm_ctx p s m args c cc nL o) (hd : decode cc pc = .ok (raw, len)) (hil : xm_il raw = 0 ∨ len = xm_il raw) (E : xm_env D g α base s) (hk : xm_lk o pc ini rt raw (.getfield f) = true) (hc : ck = f / 8192) (hal : k < xm_n S 0 ck) (kk : xm_W p l e R s m args below meth c Q nL D g α base t0 (pc + len) L (xm_get S ck k (f / 32 % 256) :: st) S) : xm_W p l e R s m args below meth c Q nL D g α base t0 pc L (.inr (some (ck, k)) :: st) S := by
  intro H locs ls hR hS hl
  obtain ⟨hx, hb, -, hown, hts⟩ := C
  cases raw with
  | getfield j =>
    obtain rfl := xm_il1 hil rfl
    obtain ⟨e1, e2⟩ := Bool.and_eq_true_iff.mp (show (xm_has xm_fl o j f && xm_wf (.getfield f)) = true from hk)
    have hw := hts _ (xm_fl_in _ (xm_has_in e1))
    obtain ⟨w1, w2, w3, w4⟩ := of_decide_eq_true e2
    unfold xm_fword at hw
    have hob := hR.2.2.2.2.1 ck k (by omega) hal
    unfold xm_obj at hob
    rw [if_pos (by omega)] at hob
    subst hc
    obtain ⟨cell, q1, q2, q3, q4⟩ := hob
    obtain ⟨hS1, hfc, kC, hkC, hkind⟩ := E.1.1 _ _ (xm_cl_at (f / 8192) (by omega))
    obtain ⟨cf, kf, fi, fd, hi, hsl⟩ := hS1 (f / 32 % 256) w4
    have hlays := u_lays hts (xm_ws_in (c := f / 8192) (by omega)) w4
    have hi2 := hi
    simp only [xm_dc (c := f / 8192) (by omega) w4] at hi2
    refine W.getf hx hb hown hw hi2 (u_facts hfc hkC hlays hi).1 q1 (by rw [q3]; exact fun h => by cases h) (v := xm_conc α (xm_get S (f / 8192) k (f / 32 % 256))) ?_ rfl rfl hd (kk H locs ls hR hS hl)
    rw [hsl]
    exact q4 _ w4
  | _ => cases hk
theorem xm_w_putf {f ck k : Nat} {v : xm_V} {S' : xm_S} (C : xm_ctx p s m args c cc nL o) (hd : decode cc pc = .ok (raw, len)) (hil : xm_il raw = 0 ∨ len = xm_il raw) (E : xm_env D g α base s) (hini : ini = true → meth.name = "<init>") (hk : xm_lk o pc ini rt raw (.putfield f) = true) (hc : ck = f / 8192) (hal : k < xm_n S 0 ck)
    (hnv : narrow (xm_fty ck (f / 32 % 256)) (xm_conc α v) = xm_conc α v) (hfv : fits (xm_fty ck (f / 32 % 256)) (xm_conc α v) = true)
    (hg : ∀ j', xm_get S' ck k j' = if j' = f / 32 % 256 then v else xm_get S ck k j') (hn : xm_n S' = xm_n S) (ha : xm_a S' = xm_a S) (hll : xm_l S' = xm_l S) (hi : ∀ p q j, (p = ck ∧ q = k) ∨ xm_i S' p q j = xm_i S p q j) (hr : ∀ p q j, (p = ck ∧ q = k) ∨ xm_r S' p q j = xm_r S p q j)
    (kk : xm_W p l e R s m args below meth c Q nL D g α base t0 (pc + len) L st S') : xm_W p l e R s m args below meth c Q nL D g α base t0 pc L (v :: .inr (some (ck, k)) :: st) S := by
  intro H locs ls hR hS hl
  obtain ⟨hx, hb, -, hown, hts⟩ := C
  cases raw with
  | putfield j =>
    obtain rfl := xm_il1 hil rfl
    obtain ⟨e1, e2⟩ := Bool.and_eq_true_iff.mp (show (xm_has xm_fl o j f && (xm_wf (.putfield f) && (!(xm_fin (f / 8192) (f / 32 % 256)) || (ini && decide (o = f / 8192))))) = true from hk)
    obtain ⟨e2, e3⟩ := Bool.and_eq_true_iff.mp e2
    have hw := hts _ (xm_fl_in _ (xm_has_in e1))
    obtain ⟨w1, w2, w3, w4⟩ := of_decide_eq_true e2
    unfold xm_fword at hw
    subst hc
    have hob := hR.2.2.2.2.1 (f / 8192) k (by omega) hal
    unfold xm_obj at hob
    rw [if_pos (by omega)] at hob
    obtain ⟨cell, q1, q2, q3, q4⟩ := hob
    have hcl := xm_cl_at (f / 8192) (by omega)
    obtain ⟨hS1, hfc, kC, hkC, hkind⟩ := E.1.1 _ _ hcl
    obtain ⟨cf, kf, fi, fd, hif, hsl⟩ := hS1 (f / 32 % 256) w4
    have hin := xm_ws_in (c := f / 8192) (by omega)
    have hap := va_apart (own := xm_cn o) hts hin (xm_fty (f / 8192)) (fun j hj => xm_fty_ok (by omega) hj) (xm_nm (c := f / 8192) (by omega)) E.1 hcl
    have hi2 := hif
    simp only [xm_dc (c := f / 8192) (by omega) w4] at hi2
    have hst := (u_facts hfc hkC (u_lays hts hin w4) hif).1
    have hpd := xm_fty_ok (c := f / 8192) (j := f / 32 % 256) (by omega) w4
    have hlay := hts _ (hin _ (u_in_lay w4))
    have fin : ∀ (H' : Heap), H'[α (f / 8192) k]? = some (cell.setSlot fd.slot (xm_conc α v)) → H'.size = H.size → (∀ q, q ≠ α (f / 8192) k → H'[q]? = H[q]?) → W p l e R s m args below meth c H' (locs ++ [⟨α (f / 8192) k, fd.slot⟩]) (xm_n S 0 100 - s.heap.size) (xm_n S 0 101 - t0) Q (F0 m (pc + 3) ls (st.map (xm_conc α))) := by
      intro H' a1 a2 a3
      have hob' : xm_obj D g α S' (f / 8192) k H' := by
        unfold xm_obj
        rw [if_pos (by omega)]
        rw [hsl] at a1
        refine t_OB.to (V := updV (fun j => xm_conc α (xm_get S (f / 8192) k j)) (f / 32 % 256) (xm_conc α v)) ⟨_, a1, q2, q3, t_set q4 hap w4 _⟩ (fun j' hj' => ?_)
        rw [hg j']
        unfold updV
        split <;> rfl
      have hR' := hR.put (k := k) (c := f / 8192) (by omega) hal (by omega) hn ha hll hi hr a2 a3 hob'
      have := kk H' (locs ++ [⟨α (f / 8192) k, fd.slot⟩]) ls hR' (hS.put a2 a3 (hR.2.1 _ _ (by omega) hal).2.1) hl
      rw [hn] at this
      exact this
    unfold u_lay at hlay
    by_cases hf : ((fun k => xm_fn (f / 8192) k) (f / 32 % 256)).2.2.2 = true
    · rw [if_pos hf] at hlay
      have hfn : xm_fin (f / 8192) (f / 32 % 256) = true := by
        unfold xm_fin
        rw [hcl]
        exact hf
      rw [hfn] at e3
      obtain ⟨e4, e5⟩ := Bool.and_eq_true_iff.mp (show (ini && decide (o = f / 8192)) = true from e3)
      have e5 := of_decide_eq_true e5
      have hcf : m.cls = cf := by
        obtain ⟨_, _, c', _, _, _, -, -, hf', -, -, -, hown2, -⟩ := Cond.laysFinal_spec hlay
        have e1 : c' = cf := by have := hif.symm.trans hf'; simp at this; exact this.1.symm
        rw [xm_dc (c := f / 8192) (by omega) w4, ← e5] at hown2
        rw [← e1]; exact Option.some.inj (hown.symm.trans hown2)
      have h6 := u_fits hfc hkC hkind (Or.inr hlay) hif hpd hnv hfv
      exact W.putFinK hx hb hown hw hi2 hst hcf (hini e4) (by rw [q2]; exact h6) q1 q3 (by rw [hsl]; exact k2_hasslot (q4 _ w4)) rfl rfl hd fin
    · rw [if_neg hf] at hlay
      have h6 := u_store hfc hkC hkind hlay hif hpd hnv hfv
      exact W.putK hx hb (f := fd) ⟨hown, hw, ⟨_, _, _, hi2⟩, hst⟩ (by rw [q2]; exact h6) q1 q3 (by rw [hsl]; exact k2_hasslot (q4 _ w4)) rfl rfl hd fin
  | _ => cases hk
theorem xm_w_gets {kq : Nat} (C : xm_ctx p s m args c cc nL o) (hd : decode cc pc = .ok (raw, len)) (hil : xm_il raw = 0 ∨ len = xm_il raw) (E : xm_env D g α base s) (hk : xm_lk o pc ini rt raw (.getstatic kq) = true) (kk : xm_W p l e R s m args below meth c Q nL D g α base t0 (pc + len) L (.inr (some (16, kq)) :: st) S) : xm_W p l e R s m args below meth c Q nL D g α base t0 pc L st S := by
  intro H locs ls hR hS hl
  obtain ⟨hx, hb, -, hown, hts⟩ := C
  cases raw with
  | getstatic j =>
    obtain rfl := xm_il1 hil rfl
    obtain ⟨e1, e2⟩ := Bool.and_eq_true_iff.mp (show (xm_has xm_sl_ o j kq && decide (kq < 7)) = true from hk)
    have hw := hts _ (xm_sl_in _ (xm_has_in e1))
    unfold xm_sword at hw
    exact va_gets hx hb (E.2.2.2.2.1 kq (of_decide_eq_true e2)) hS hown hw (fun _ h => h) hd (kk H locs ls hR hS hl)
  | _ => cases hk
end XMF
