/-! ===== A CALL ENDS, where no one leads in its order: the contract ===== -/
section
/-- those taken back have ended -/
def kXd (S : xm_S) (X : Nat → Prop) : Prop := ∀ k, X k → k < xm_n S 1 6 ∧ xm_i S 2 k 8 ≠ 0
theorem kXd.L {S S' : xm_S} {A A' : y_A} {X : Nat → Prop} (h : kXd S X) (hl : kL S S' A A') : kXd S' X := fun k hk => by
  obtain ⟨h1, h2⟩ := h k hk
  obtain ⟨⟨-, L2, -⟩, -, L6, -⟩ := hl
  exact ⟨by omega, by rw [((L6 k h1).2.2.2.2.2.2.2 h2).1]; exact h2⟩
/-- jobs more, where one may lead -/
noncomputable def kC (Nm : Prop) : Nat := @ite Nat Nm (Classical.propDecidable Nm) 0 200
theorem kC.t : kC True = 0 := if_pos trivial
theorem kC.f : kC False = 200 := if_neg id
/-- one that does not lead; in N-mode no one leads in its order -/
def kNm (Nm : Prop) (S : xm_S) (c o : Nat) : Prop := c < xm_n S 1 6 ∧ ¬ xm_i S 2 c 14 = 1 ∧ (Nm → kNl S o)
theorem kNm.L {Nm : Prop} {S S' : xm_S} {A A' : y_A} {c o : Nat} (h : kNm Nm S c o) (hl : kL S S' A A') : kNm Nm S' c o := by
  obtain ⟨h1, h2, h3⟩ := h
  refine ⟨?_, ?_, fun z => (h3 z).L hl⟩
  · have := hl.1.2.1
    omega
  · rw [(hl.2.2.1 c h1).2.2.2.2.1]; exact h2
/-- behind it -/
def kPo (S : xm_S) (A A0 : y_A) (js rest : List y_J) (X E : Nat → Prop) (hb rb nb t w : Nat) (r : Option xm_V) (S' : xm_S) : Prop := r = none ∧ xk_C S' ∧ ∃ A', y_to A0 js A' rest ∧ kM S' A' X E (fun _ => False) hb rb nb t w 0 0 ∧ kL S S' A A'
/-- the contract: calls of depth e, with D frames -/
def kEN (Nm : Prop) (D e : Nat) : Prop := ∀ (S : xm_S) (A : y_A) (X E : Nat → Prop) (hb rb nb t w e1 e2 c o : Nat) (rest : List y_J), kM S A X (fun k => E k ∨ k = c) (fun _ => False) hb rb nb t w e1 e2 → c < xm_n S 1 6 → xm_i S 2 c 8 = 0 → ¬ A 75 c = 1 → kXd S X → kDl S A E → xm_i S 2 c 3 = nI e → xm_r S 2 c 1 = some o → kNm Nm S c o → rest.length + 10 * e + 110 + kC Nm ≤ 20000 →
  (∀ v b : Int32, (b = 0 ∨ b = 1) → e1 ≤ 1 → e2 = 0 → xc D 30 [.inr (some (0, 0)), .inr (some (2, c)), .inl v, .inl b] S (kPo S A A (((1 : Int32), nI c, 1, v, b) :: rest) rest X E hb rb nb t w)) ∧
  (∀ (f : Nat) (b : Int32), f < xm_n S 1 8 → (b = 0 ∨ b = 1) → e1 = 0 → e2 ≤ 1 → xc D 22 [.inr (some (0, 0)), .inr (some (2, c)), .inr (some (4, f))] S (kPo S A A (((1 : Int32), nI c, 2, nI f, b) :: rest) rest X E hb rb nb t w))
/-- one that has ended just now, and its parent -/
def kTp (Nm : Prop) (S : xm_S) (A : y_A) (p c e o : Nat) : Prop := c < xm_n S 1 6 ∧ p < xm_n S 1 6 ∧ xm_r S 2 c 2 = some p ∧ xm_i S 2 p 8 = 0 ∧ (A 69 c = 1 ∨ A 69 c = 2) ∧ A 68 c = A 0 0 ∧ xm_i S 2 p 3 = nI e ∧ xm_r S 2 p 1 = some o ∧ kNm Nm S p o
/-- the parent is told -/
def kTN (Nm : Prop) (D e : Nat) (s : Int32) : Prop := ∀ (S : xm_S) (A : y_A) (X E : Nat → Prop) (hb rb nb t w p c o g : Nat) (rest : List y_J), kM S A X (fun k => E k ∨ (k = p ∧ A 31 g = 3)) (fun _ => False) hb rb nb t w 0 0 → kTp Nm S A p c e o → kXd S X → kDl S A E → ¬ E p → xm_r S 2 p 4 = some g → A 31 g = s → (A 31 g ≠ 4 → A 31 g ≠ 5 → A 31 g ≠ 6 → ∀ k, k < xm_n S 1 6 → xm_r S 2 k 2 = some p → k = c) → (∀ k, k < xm_n S 1 6 → xm_r S 2 k 2 = some p → xm_i S 2 k 8 = 0 → A 31 g = 5) → (A 31 g ≠ 5 → xm_r S 2 p 17 = some c) → rest.length + 10 * e + 114 + kC Nm ≤ 20000 →
  ∃ A2 js2, rf_told (nI p) (nI c) A rest = (A2, js2) ∧ rg_told (nI p) (nI c) A rest ∧ xc D 24 [.inr (some (0, 0)), .inr (some (2, p)), .inr (some (2, c))] S (kPo S A A2 js2 rest X E hb rb nb t w)
/-- a JOIN that leads is told -/
def kTJ (Nm : Prop) (D e : Nat) : Prop := ∀ (S : xm_S) (A : y_A) (X E : Nat → Prop) (hb rb nb t w p c o g : Nat) (rest : List y_J), kM S A X E (fun _ => False) hb rb nb t w 0 0 → c < xm_n S 1 6 → p < xm_n S 1 6 → xm_r S 2 c 2 = some p → xm_i S 2 p 8 = 0 → (A 69 c = 1 ∨ A 69 c = 2) → xm_i S 2 p 3 = nI e → xm_r S 2 p 1 = some o → (Nm → kNl S o) → xm_i S 2 p 14 = 1 → kXd S X → kDl S A E → ¬ E p → xm_r S 2 p 4 = some g → A 31 g = 8 → (∀ k, k < xm_n S 1 6 → xm_r S 2 k 2 = some p → xm_i S 2 k 8 ≠ 0) → rest.length + 10 * e + 114 + kC Nm ≤ 20000 →
  ∃ A2 js2, rf_told (nI p) (nI c) A rest = (A2, js2) ∧ rg_told (nI p) (nI c) A rest ∧ xc D 24 [.inr (some (0, 0)), .inr (some (2, p)), .inr (some (2, c))] S (kPo S A A2 js2 rest X E hb rb nb t w)
/-- what is left of taking back -/
def kTB (Nm : Prop) (D : Nat) : Prop := ∀ (S : xm_S) (A : y_A) (X E : Nat → Prop) (hb rb nb t w c p o : Nat) (rest : List y_J), kM S A X E (fun _ => False) hb rb nb t w 0 0 → c < xm_n S 1 6 → xm_i S 2 c 8 = 0 → xm_r S 2 c 2 = some p → xm_r S 2 p 1 = some o → kXd S X → kDl S A E → (Nm → kNl S o) → rest.length + 80 + kC Nm ≤ 20000 →
  ∃ A1 J1 v, rf_takeBack (nI c) (-1) A rest = (v, A1, J1) ∧ rg_takeBack (nI c) (-1) A rest ∧ xc D 34 [.inr (some (0, 0)), .inr (some (2, c))] S (fun r S' => ∃ x, r = some (.inl x) ∧ xk_C S' ∧ ∃ A', y_to A1 J1 A' rest ∧ kM S' A' X (fun k => E k ∨ (xm_r S 2 c 2 = some k ∧ ∃ g, xm_r S 2 k 4 = some g ∧ A 31 g = 3)) (fun _ => False) hb rb nb t w 0 0 ∧ kL S S' A A' ∧ (∀ e, kT S c e → xm_i S' 2 e 8 = 3))
/-- ends as the inner one did -/
theorem c_alike {Nm : Prop} {D e : Nat} (IH : kEN Nm D e) {S : xm_S} {A : y_A} {X E : Nat → Prop} {hb rb nb t w p c o : Nat} {rest : List y_J} (hM : kM S A X (fun k => E k ∨ k = p) (fun _ => False) hb rb nb t w 0 0) (ht : kTp Nm S A p c e o) (hX : kXd S X) (hD : kDl S A E) (h75 : ¬ A 75 p = 1) (hlen : rest.length + 10 * e + 110 + kC Nm ≤ 20000) :
    (xm_i S 2 c 8 = 1 → xc D 30 [.inr (some (0, 0)), .inr (some (2, p)), .inl (xm_i S 2 c 9), .inl (xm_i S 2 c 10)] S (kPo S A A (((1 : Int32), nI p, A 69 c, A 70 c, if A 71 c = 0 then 0 else 1) :: rest) rest X E hb rb nb t w)) ∧ (¬ xm_i S 2 c 8 = 1 → ∃ f, xm_r S 2 c 11 = some f ∧ f < xm_n S 1 8 ∧ A 70 c = nI f ∧ xc D 22 [.inr (some (0, 0)), .inr (some (2, p)), .inr (some (4, f))] S (kPo S A A (((1 : Int32), nI p, A 69 c, A 70 c, if A 71 c = 0 then 0 else 1) :: rest) rest X E hb rb nb t w)) := by
  obtain ⟨t1, t2, t3, t4, t5, t6, t7, t8, t9⟩ := ht
  have hc := hM.1.2.2.2.2.2.2.2.1 c t1
  have h8 := hc.2.2.2.2.1
  have h9 := hc.2.2.2.2.2.2.2.2.2.2.2.2.2.2.1
  have h11 := hc.2.2.2.2.2.2.2.2.2.2.2.2.2.2.2.1
  have h10 := hc.2.2.2.2.2.1
  have h71 := hc.2.2.2.2.2.2.2.2.2.2.2.2.2.2.2.2.1
  have hfb := hc.2.2.2.2.2.2.2.2.2.2.2.2.2.2.2.2.2.2.2.2.2.2.2.2.2.2.2
  obtain ⟨i1, i2⟩ := IH S A X E hb rb nb t w 0 0 p o rest hM t2 t4 h75 hX hD t7 t8 t9 hlen
  constructor
  · intro z
    have z69 : A 69 c = 1 := by rw [← h8]; exact z
    rw [z69, if_pos rfl] at h9
    have := i1 (A 70 c) (A 71 c) h71 (by omega) rfl
    rw [h9, h10, z69]
    have e : (if A 71 c = 0 then (0 : Int32) else 1) = A 71 c := by
      rcases h71 with y | y
      · rw [y, if_pos rfl]
      · rw [y, if_neg (by decide)]
    rw [e]
    exact this
  · intro z
    have z69 : A 69 c = 2 := t5.resolve_left (fun y => z (by rw [h8]; exact y))
    have h82 : xm_i S 2 c 8 = 2 := by rw [h8]; exact z69
    obtain ⟨f, hf⟩ := ((hM.2.2.2.2.2.2.2.2.2.2.2.2.2.2.1).2.2.choose_spec.2.2.2 c t1).2.1 h82
    rw [z69, if_pos rfl, hf] at h11
    have hfn := hfb f hf
    have hbb : (if A 71 c = 0 then (0 : Int32) else 1) = 0 ∨ (if A 71 c = 0 then (0 : Int32) else 1) = 1 := by
      by_cases y : A 71 c = 0
      · exact Or.inl (if_pos y)
      · exact Or.inr (if_neg y)
    refine ⟨f, hf, hfn, h11.symm, ?_⟩
    rw [z69, ← h11]
    exact i2 f _ hfn hbb rfl (by omega)
/-- the job END -/
theorem k_ends {A : y_A} {c : Nat} {h v b' : Int32} {js : List y_J} (hc : c < 4400) (h0 : A 69 c = 0) (hh : h = 1 ∨ h = 2) (hb : b' = 0 ∨ b' = 1) :
    (∀ o, o < 60 → A 64 c < 0 → A 62 c = nI o → rf_ends (nI c) h v (if b' ≤ 0 then 0 else 1) A js = (kA0 A c o h v (if h = 1 then b' else 0) (k_how h (if h = 1 then b' else 0)), js) ∧ rg_ends (nI c) h v (if b' ≤ 0 then 0 else 1) A js) ∧
    (∀ p A2 js2, A 64 c = nI p → p < 4400 → rf_told (nI p) (nI c) (kA1 A c h v (if h = 1 then b' else 0)) js = (A2, js2) → rg_told (nI p) (nI c) (kA1 A c h v (if h = 1 then b' else 0)) js → rf_ends (nI c) h v (if b' ≤ 0 then 0 else 1) A js = (A2, js2) ∧ rg_ends (nI c) h v (if b' ≤ 0 then 0 else 1) A js) := by
  have hix : y_ix (nI c) = c := y_ix_nI (by omega)
  have yc : y_in (nI c) 4400 := y_in_nI hc (by decide)
  have eb : (if b' ≤ 0 then (0 : Int32) else 1) = b' := by
    rcases hb with rfl | rfl
    · rfl
    · rfl
  rw [eb]
  refine ⟨fun o ho hn h62 => ?_, fun p A2 js2 h64 hp hr hg => ?_⟩
  · have hox : y_ix (nI o) = o := y_ix_nI (by omega)
    have yo : y_in (nI o) 60 := y_in_nI ho (by decide)
    unfold rf_ends rg_ends
    rw [hix, h62, hox]
    rcases hb with rfl | rfl
    · rcases hh with rfl | rfl
      · refine ⟨?_, yc, fun _ => ⟨fun _ => ⟨fun _ => ⟨fun _ => ⟨yo, trivial⟩, fun z => absurd rfl z⟩, fun z => absurd hn z⟩, fun z => absurd rfl z⟩, fun z => absurd h0 z⟩
        rw [if_pos h0, if_pos rfl, if_pos hn, if_pos rfl, if_pos rfl]
        rfl
      · have c2 : ¬ (2 : Int32) = 1 := by decide
        refine ⟨?_, yc, fun _ => ⟨fun _ => ⟨fun _ => ⟨fun z => absurd z c2, fun _ => ⟨yo, trivial⟩⟩, fun z => absurd hn z⟩, fun z => absurd rfl z⟩, fun z => absurd h0 z⟩
        rw [if_pos h0, if_pos rfl, if_pos hn, if_neg c2, if_neg c2]
        rfl
    · have c1 : ¬ (1 : Int32) = 0 := by decide
      rcases hh with rfl | rfl
      · refine ⟨?_, yc, fun _ => ⟨fun z => absurd z c1, fun _ => ⟨fun _ => ⟨fun _ => ⟨yo, trivial⟩, fun z => absurd hn z⟩, fun z => absurd rfl z⟩⟩, fun z => absurd h0 z⟩
        rw [if_pos h0, if_neg c1, if_pos rfl, if_pos hn, if_pos rfl]
        rfl
      · have c2 : ¬ (2 : Int32) = 1 := by decide
        refine ⟨?_, yc, fun _ => ⟨fun z => absurd z c1, fun _ => ⟨fun z => absurd z c2, fun _ => ⟨fun _ => ⟨yo, trivial⟩, fun z => absurd hn z⟩⟩⟩, fun z => absurd h0 z⟩
        rw [if_pos h0, if_neg c1, if_neg c2, if_pos hn, if_neg c2]
        rfl
  · have hn : ¬ nI p < 0 := nI_pos (by omega)
    unfold rf_ends rg_ends
    rw [hix, h64]
    unfold kA1 at hr hg
    rcases hb with rfl | rfl
    · rw [ite_self] at hr hg
      refine ⟨?_, yc, fun _ => ⟨fun _ => ⟨fun z => absurd z hn, fun _ => ⟨hg, trivial⟩⟩, fun z => absurd rfl z⟩, fun z => absurd h0 z⟩
      rw [if_pos h0, if_pos rfl, if_neg hn, hr]
    · have c1 : ¬ (1 : Int32) = 0 := by decide
      rcases hh with rfl | rfl
      · rw [if_pos rfl] at hr hg
        refine ⟨?_, yc, fun _ => ⟨fun z => absurd z c1, fun _ => ⟨fun _ => ⟨fun z => absurd z hn, fun _ => ⟨hg, trivial⟩⟩, fun z => absurd rfl z⟩⟩, fun z => absurd h0 z⟩
        rw [if_pos h0, if_neg c1, if_pos rfl, if_neg hn, hr]
      · have c2 : ¬ (2 : Int32) = 1 := by decide
        rw [if_neg c2] at hr hg
        refine ⟨?_, yc, fun _ => ⟨fun z => absurd z c1, fun _ => ⟨fun z => absurd z c2, fun _ => ⟨fun z => absurd z hn, fun _ => ⟨hg, trivial⟩⟩⟩⟩, fun z => absurd h0 z⟩
        rw [if_pos h0, if_neg c1, if_neg c2, if_neg hn, hr]
end
