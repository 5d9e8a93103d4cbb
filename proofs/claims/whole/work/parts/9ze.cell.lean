/-! ===== THE JOBS LEAVE CELL 98 ALONE (printed by wip/whole/gen9ze.py) ===== -/
section
theorem r98 {A : y_A} {p x k : Nat} {v : Int32} (h : x ≠ 98) : xm_u2 A 98 p v x k = A x k := y_off (fun z => h z.1)
theorem c98 {A : y_A} {p x k : Nat} {v u : Int32} (h : x ≠ 98) : xm_u2 (xm_u2 A 98 p v) x k u = xm_u2 (xm_u2 A x k u) 98 p v := by
  funext y e
  unfold xm_u2
  by_cases c : y = x ∧ e = k
  · rw [if_pos c, if_neg (fun z => h (c.1.symm.trans z.1)), if_pos c]
  · rw [if_neg c]
    by_cases c2 : y = 98 ∧ e = p
    · rw [if_pos c2, if_pos c2]
    · rw [if_neg c2, if_neg c2, if_neg c]
def k98 (p : Nat) (v : Int32) (P : y_A × List y_J) : y_A × List y_J := (xm_u2 P.1 98 p v, P.2)
def k98a (p : Nat) (v : Int32) (P : Int32 × y_A) : Int32 × y_A := (P.1, xm_u2 P.2 98 p v)
def k98b (p : Nat) (v : Int32) (P : Int32 × y_A × List y_J) : Int32 × y_A × List y_J := (P.1, xm_u2 P.2.1 98 p v, P.2.2)
theorem k98_m {p : Nat} {v : Int32} {A : y_A} {js : List y_J} : k98 p v (A, js) = (xm_u2 A 98 p v, js) := rfl
theorem k98_1 {p : Nat} {v : Int32} {P : y_A × List y_J} : (k98 p v P).1 = xm_u2 P.1 98 p v := rfl
theorem k98_2 {p : Nat} {v : Int32} {P : y_A × List y_J} : (k98 p v P).2 = P.2 := rfl
theorem k98_i {p : Nat} {v : Int32} {c : Prop} [Decidable c] {a b : y_A × List y_J} : k98 p v (if c then a else b) = if c then k98 p v a else k98 p v b := apply_ite _ _ _ _
theorem k98a_m {p : Nat} {v x : Int32} {A : y_A} : k98a p v (x, A) = (x, xm_u2 A 98 p v) := rfl
theorem k98a_1 {p : Nat} {v : Int32} {P : Int32 × y_A} : (k98a p v P).1 = P.1 := rfl
theorem k98a_2 {p : Nat} {v : Int32} {P : Int32 × y_A} : (k98a p v P).2 = xm_u2 P.2 98 p v := rfl
theorem k98a_i {p : Nat} {v : Int32} {c : Prop} [Decidable c] {a b : Int32 × y_A} : k98a p v (if c then a else b) = if c then k98a p v a else k98a p v b := apply_ite _ _ _ _
theorem k98b_m {p : Nat} {v x : Int32} {A : y_A} {js : List y_J} : k98b p v (x, A, js) = (x, xm_u2 A 98 p v, js) := rfl
theorem k98b_1 {p : Nat} {v : Int32} {P : Int32 × y_A × List y_J} : (k98b p v P).1 = P.1 := rfl
theorem k98b_2 {p : Nat} {v : Int32} {P : Int32 × y_A × List y_J} : (k98b p v P).2.1 = xm_u2 P.2.1 98 p v := rfl
theorem k98b_3 {p : Nat} {v : Int32} {P : Int32 × y_A × List y_J} : (k98b p v P).2.2 = P.2.2 := rfl
theorem k98b_i {p : Nat} {v : Int32} {c : Prop} [Decidable c] {a b : Int32 × y_A × List y_J} : k98b p v (if c then a else b) = if c then k98b p v a else k98b p v b := apply_ite _ _ _ _
theorem u98_i {p : Nat} {v : Int32} {c : Prop} [Decidable c] {a b : y_A} : xm_u2 (if c then a else b) 98 p v = if c then xm_u2 a 98 p v else xm_u2 b 98 p v := apply_ite (fun z => xm_u2 z 98 p v) _ _ _
theorem k98_rf_over {p : Nat} {v : Int32} (a1 : Int32) (A : y_A) : rf_over a1 (xm_u2 A 98 p v) = rf_over a1 A := by
  simp only [rf_over, r98, c98, k98_m, k98_1, k98_2, k98_i, k98a_m, k98a_1, k98a_2, k98a_i, k98b_m, k98b_1, k98b_2, k98b_3, k98b_i, u98_i, ne_eq, Nat.reduceEqDiff, not_false_eq_true]
theorem k98_rg_over {p : Nat} {v : Int32} (a1 : Int32) (A : y_A) : rg_over a1 (xm_u2 A 98 p v) = rg_over a1 A := by
  simp only [rg_over, r98, c98, k98_m, k98_1, k98_2, k98_i, k98a_m, k98a_1, k98a_2, k98a_i, k98b_m, k98b_1, k98b_2, k98b_3, k98b_i, u98_i, ne_eq, Nat.reduceEqDiff, not_false_eq_true]
theorem k98_rf_isUnder_2 {p : Nat} {v : Int32} (N : Nat) : ∀ (l1 l2 l3 : Int32) (A : y_A), rf_isUnder_2 N l1 l2 l3 (xm_u2 A 98 p v) = rf_isUnder_2 N l1 l2 l3 A := by
  induction N with
  | zero => intros; rfl
  | succ N ih =>
    intros
    simp only [rf_isUnder_2, ih, r98, c98, k98_m, k98_1, k98_2, k98_i, k98a_m, k98a_1, k98a_2, k98a_i, k98b_m, k98b_1, k98b_2, k98b_3, k98b_i, u98_i, ne_eq, Nat.reduceEqDiff, not_false_eq_true, k98_rf_over]
theorem k98_rg_isUnder_2 {p : Nat} {v : Int32} (N : Nat) : ∀ (l1 l2 l3 : Int32) (A : y_A), rg_isUnder_2 N l1 l2 l3 (xm_u2 A 98 p v) = rg_isUnder_2 N l1 l2 l3 A := by
  induction N with
  | zero => intros; rfl
  | succ N ih =>
    intros
    simp only [rg_isUnder_2, ih, r98, c98, k98_m, k98_1, k98_2, k98_i, k98a_m, k98a_1, k98a_2, k98a_i, k98b_m, k98b_1, k98b_2, k98b_3, k98b_i, u98_i, ne_eq, Nat.reduceEqDiff, not_false_eq_true, k98_rg_over, k98_rf_over]
theorem k98_rf_isUnder {p : Nat} {v : Int32} (a1 a2 : Int32) (A : y_A) : rf_isUnder a1 a2 (xm_u2 A 98 p v) = rf_isUnder a1 a2 A := by
  simp only [rf_isUnder, r98, c98, k98_m, k98_1, k98_2, k98_i, k98a_m, k98a_1, k98a_2, k98a_i, k98b_m, k98b_1, k98b_2, k98b_3, k98b_i, u98_i, ne_eq, Nat.reduceEqDiff, not_false_eq_true, k98_rf_isUnder_2]
theorem k98_rg_isUnder {p : Nat} {v : Int32} (a1 a2 : Int32) (A : y_A) : rg_isUnder a1 a2 (xm_u2 A 98 p v) = rg_isUnder a1 a2 A := by
  simp only [rg_isUnder, r98, c98, k98_m, k98_1, k98_2, k98_i, k98a_m, k98a_1, k98a_2, k98a_i, k98b_m, k98b_1, k98b_2, k98b_3, k98b_i, u98_i, ne_eq, Nat.reduceEqDiff, not_false_eq_true, k98_rg_isUnder_2, k98_rf_isUnder_2]
theorem k98_rf_guardAt {p : Nat} {v : Int32} (a1 a2 : Int32) (A : y_A) : rf_guardAt a1 a2 (xm_u2 A 98 p v) = rf_guardAt a1 a2 A := by
  simp only [rf_guardAt, r98, c98, k98_m, k98_1, k98_2, k98_i, k98a_m, k98a_1, k98a_2, k98a_i, k98b_m, k98b_1, k98b_2, k98b_3, k98b_i, u98_i, ne_eq, Nat.reduceEqDiff, not_false_eq_true]
theorem k98_rg_guardAt {p : Nat} {v : Int32} (a1 a2 : Int32) (A : y_A) : rg_guardAt a1 a2 (xm_u2 A 98 p v) = rg_guardAt a1 a2 A := by
  simp only [rg_guardAt, r98, c98, k98_m, k98_1, k98_2, k98_i, k98a_m, k98a_1, k98a_2, k98a_i, k98b_m, k98b_1, k98b_2, k98b_3, k98b_i, u98_i, ne_eq, Nat.reduceEqDiff, not_false_eq_true]
theorem k98_rf_isAlike {p : Nat} {v : Int32} (a1 a2 : Int32) (A : y_A) : rf_isAlike a1 a2 (xm_u2 A 98 p v) = rf_isAlike a1 a2 A := by
  simp only [rf_isAlike, r98, c98, k98_m, k98_1, k98_2, k98_i, k98a_m, k98a_1, k98a_2, k98a_i, k98b_m, k98b_1, k98b_2, k98b_3, k98b_i, u98_i, ne_eq, Nat.reduceEqDiff, not_false_eq_true]
theorem k98_rg_isAlike {p : Nat} {v : Int32} (a1 a2 : Int32) (A : y_A) : rg_isAlike a1 a2 (xm_u2 A 98 p v) = rg_isAlike a1 a2 A := by
  simp only [rg_isAlike, r98, c98, k98_m, k98_1, k98_2, k98_i, k98a_m, k98a_1, k98a_2, k98a_i, k98b_m, k98b_1, k98b_2, k98b_3, k98b_i, u98_i, ne_eq, Nat.reduceEqDiff, not_false_eq_true]
theorem k98_rf_tryEnd_15 {p : Nat} {v : Int32} (N : Nat) : ∀ (l1 l2 l3 l4 : Int32) (A : y_A), rf_tryEnd_15 N l1 l2 l3 l4 (xm_u2 A 98 p v) = rf_tryEnd_15 N l1 l2 l3 l4 A := by
  induction N with
  | zero => intros; rfl
  | succ N ih =>
    intros
    simp only [rf_tryEnd_15, ih, r98, c98, k98_m, k98_1, k98_2, k98_i, k98a_m, k98a_1, k98a_2, k98a_i, k98b_m, k98b_1, k98b_2, k98b_3, k98b_i, u98_i, ne_eq, Nat.reduceEqDiff, not_false_eq_true]
theorem k98_rg_tryEnd_15 {p : Nat} {v : Int32} (N : Nat) : ∀ (l1 l2 l3 l4 : Int32) (A : y_A), rg_tryEnd_15 N l1 l2 l3 l4 (xm_u2 A 98 p v) = rg_tryEnd_15 N l1 l2 l3 l4 A := by
  induction N with
  | zero => intros; rfl
  | succ N ih =>
    intros
    simp only [rg_tryEnd_15, ih, r98, c98, k98_m, k98_1, k98_2, k98_i, k98a_m, k98a_1, k98a_2, k98a_i, k98b_m, k98b_1, k98b_2, k98b_3, k98b_i, u98_i, ne_eq, Nat.reduceEqDiff, not_false_eq_true]
theorem k98_rf_tryEnd {p : Nat} {v : Int32} (a1 a2 : Int32) (A : y_A) : rf_tryEnd a1 a2 (xm_u2 A 98 p v) = rf_tryEnd a1 a2 A := by
  simp only [rf_tryEnd, r98, c98, k98_m, k98_1, k98_2, k98_i, k98a_m, k98a_1, k98a_2, k98a_i, k98b_m, k98b_1, k98b_2, k98b_3, k98b_i, u98_i, ne_eq, Nat.reduceEqDiff, not_false_eq_true, k98_rf_tryEnd_15]
theorem k98_rg_tryEnd {p : Nat} {v : Int32} (a1 a2 : Int32) (A : y_A) : rg_tryEnd a1 a2 (xm_u2 A 98 p v) = rg_tryEnd a1 a2 A := by
  simp only [rg_tryEnd, r98, c98, k98_m, k98_1, k98_2, k98_i, k98a_m, k98a_1, k98a_2, k98a_i, k98b_m, k98b_1, k98b_2, k98b_3, k98b_i, u98_i, ne_eq, Nat.reduceEqDiff, not_false_eq_true, k98_rg_tryEnd_15]
theorem k98_rf_isNamed {p : Nat} {v : Int32} (a1 a2 : Int32) (A : y_A) : rf_isNamed a1 a2 (xm_u2 A 98 p v) = rf_isNamed a1 a2 A := by
  simp only [rf_isNamed, r98, c98, k98_m, k98_1, k98_2, k98_i, k98a_m, k98a_1, k98a_2, k98a_i, k98b_m, k98b_1, k98b_2, k98b_3, k98b_i, u98_i, ne_eq, Nat.reduceEqDiff, not_false_eq_true, k98_rf_isUnder]
theorem k98_rg_isNamed {p : Nat} {v : Int32} (a1 a2 : Int32) (A : y_A) : rg_isNamed a1 a2 (xm_u2 A 98 p v) = rg_isNamed a1 a2 A := by
  simp only [rg_isNamed, r98, c98, k98_m, k98_1, k98_2, k98_i, k98a_m, k98a_1, k98a_2, k98a_i, k98b_m, k98b_1, k98b_2, k98b_3, k98b_i, u98_i, ne_eq, Nat.reduceEqDiff, not_false_eq_true, k98_rg_isUnder, k98_rf_isUnder]
theorem k98_rf_otherOf_5 {p : Nat} {v : Int32} (N : Nat) : ∀ (l1 l2 l3 l4 : Int32) (A : y_A), rf_otherOf_5 N l1 l2 l3 l4 (xm_u2 A 98 p v) = rf_otherOf_5 N l1 l2 l3 l4 A := by
  induction N with
  | zero => intros; rfl
  | succ N ih =>
    intros
    simp only [rf_otherOf_5, ih, r98, c98, k98_m, k98_1, k98_2, k98_i, k98a_m, k98a_1, k98a_2, k98a_i, k98b_m, k98b_1, k98b_2, k98b_3, k98b_i, u98_i, ne_eq, Nat.reduceEqDiff, not_false_eq_true]
theorem k98_rg_otherOf_5 {p : Nat} {v : Int32} (N : Nat) : ∀ (l1 l2 l3 l4 : Int32) (A : y_A), rg_otherOf_5 N l1 l2 l3 l4 (xm_u2 A 98 p v) = rg_otherOf_5 N l1 l2 l3 l4 A := by
  induction N with
  | zero => intros; rfl
  | succ N ih =>
    intros
    simp only [rg_otherOf_5, ih, r98, c98, k98_m, k98_1, k98_2, k98_i, k98a_m, k98a_1, k98a_2, k98a_i, k98b_m, k98b_1, k98b_2, k98b_3, k98b_i, u98_i, ne_eq, Nat.reduceEqDiff, not_false_eq_true]
theorem k98_rf_otherOf {p : Nat} {v : Int32} (a1 a2 : Int32) (A : y_A) : rf_otherOf a1 a2 (xm_u2 A 98 p v) = rf_otherOf a1 a2 A := by
  simp only [rf_otherOf, r98, c98, k98_m, k98_1, k98_2, k98_i, k98a_m, k98a_1, k98a_2, k98a_i, k98b_m, k98b_1, k98b_2, k98b_3, k98b_i, u98_i, ne_eq, Nat.reduceEqDiff, not_false_eq_true, k98_rf_otherOf_5]
theorem k98_rg_otherOf {p : Nat} {v : Int32} (a1 a2 : Int32) (A : y_A) : rg_otherOf a1 a2 (xm_u2 A 98 p v) = rg_otherOf a1 a2 A := by
  simp only [rg_otherOf, r98, c98, k98_m, k98_1, k98_2, k98_i, k98a_m, k98a_1, k98a_2, k98a_i, k98b_m, k98b_1, k98b_2, k98b_3, k98b_i, u98_i, ne_eq, Nat.reduceEqDiff, not_false_eq_true, k98_rg_otherOf_5]
theorem k98_rg_goesIn {p : Nat} {v : Int32} (a1 : Int32) (A : y_A) (js : List y_J) : rg_goesIn a1 (xm_u2 A 98 p v) js = rg_goesIn a1 A js := by
  simp only [rg_goesIn, r98, c98, k98_m, k98_1, k98_2, k98_i, k98a_m, k98a_1, k98a_2, k98a_i, k98b_m, k98b_1, k98b_2, k98b_3, k98b_i, u98_i, ne_eq, Nat.reduceEqDiff, not_false_eq_true]
theorem k98_rg_setToWork {p : Nat} {v : Int32} (a1 a2 : Int32) (A : y_A) (js : List y_J) : rg_setToWork a1 a2 (xm_u2 A 98 p v) js = rg_setToWork a1 a2 A js := by
  simp only [rg_setToWork, r98, c98, k98_m, k98_1, k98_2, k98_i, k98a_m, k98a_1, k98a_2, k98a_i, k98b_m, k98b_1, k98b_2, k98b_3, k98b_i, u98_i, ne_eq, Nat.reduceEqDiff, not_false_eq_true, k98_rg_goesIn]
theorem k98_rf_entered_429 {p : Nat} {v : Int32} (N : Nat) : ∀ (l1 l2 l3 l4 : Int32) (A : y_A), rf_entered_429 N l1 l2 l3 l4 (xm_u2 A 98 p v) = k98a p v (rf_entered_429 N l1 l2 l3 l4 A) := by
  induction N with
  | zero => intros; rfl
  | succ N ih =>
    intros
    simp only [rf_entered_429, ih, r98, c98, k98_m, k98_1, k98_2, k98_i, k98a_m, k98a_1, k98a_2, k98a_i, k98b_m, k98b_1, k98b_2, k98b_3, k98b_i, u98_i, ne_eq, Nat.reduceEqDiff, not_false_eq_true, k98_rf_isAlike]
theorem k98_rg_entered_429 {p : Nat} {v : Int32} (N : Nat) : ∀ (l1 l2 l3 l4 : Int32) (A : y_A), rg_entered_429 N l1 l2 l3 l4 (xm_u2 A 98 p v) = rg_entered_429 N l1 l2 l3 l4 A := by
  induction N with
  | zero => intros; rfl
  | succ N ih =>
    intros
    simp only [rg_entered_429, ih, r98, c98, k98_m, k98_1, k98_2, k98_i, k98a_m, k98a_1, k98a_2, k98a_i, k98b_m, k98b_1, k98b_2, k98b_3, k98b_i, u98_i, ne_eq, Nat.reduceEqDiff, not_false_eq_true, k98_rg_isAlike, k98_rf_isAlike]
theorem k98_rf_entered {p : Nat} {v : Int32} (a1 a2 : Int32) (A : y_A) (js : List y_J) : rf_entered a1 a2 (xm_u2 A 98 p v) js = k98 p v (rf_entered a1 a2 A js) := by
  simp only [rf_entered, r98, c98, k98_m, k98_1, k98_2, k98_i, k98a_m, k98a_1, k98a_2, k98a_i, k98b_m, k98b_1, k98b_2, k98b_3, k98b_i, u98_i, ne_eq, Nat.reduceEqDiff, not_false_eq_true, k98_rf_entered_429]
theorem k98_rg_entered {p : Nat} {v : Int32} (a1 a2 : Int32) (A : y_A) (js : List y_J) : rg_entered a1 a2 (xm_u2 A 98 p v) js = rg_entered a1 a2 A js := by
  simp only [rg_entered, r98, c98, k98_m, k98_1, k98_2, k98_i, k98a_m, k98a_1, k98a_2, k98a_i, k98b_m, k98b_1, k98b_2, k98b_3, k98b_i, u98_i, ne_eq, Nat.reduceEqDiff, not_false_eq_true, k98_rg_goesIn, k98_rg_setToWork, k98_rg_entered_429, k98_rf_entered_429]
theorem k98_rf_begins {p : Nat} {v : Int32} (a1 a2 a3 a4 : Int32) (A : y_A) (js : List y_J) : rf_begins a1 a2 a3 a4 (xm_u2 A 98 p v) js = k98 p v (rf_begins a1 a2 a3 a4 A js) := by
  simp only [rf_begins, r98, c98, k98_m, k98_1, k98_2, k98_i, k98a_m, k98a_1, k98a_2, k98a_i, k98b_m, k98b_1, k98b_2, k98b_3, k98b_i, u98_i, ne_eq, Nat.reduceEqDiff, not_false_eq_true, k98_rf_guardAt, k98_rf_tryEnd, k98_rf_entered]
theorem k98_rg_begins {p : Nat} {v : Int32} (a1 a2 a3 a4 : Int32) (A : y_A) (js : List y_J) : rg_begins a1 a2 a3 a4 (xm_u2 A 98 p v) js = rg_begins a1 a2 a3 a4 A js := by
  simp only [rg_begins, r98, c98, k98_m, k98_1, k98_2, k98_i, k98a_m, k98a_1, k98a_2, k98a_i, k98b_m, k98b_1, k98b_2, k98b_3, k98b_i, u98_i, ne_eq, Nat.reduceEqDiff, not_false_eq_true, k98_rg_guardAt, k98_rf_guardAt, k98_rg_tryEnd, k98_rg_entered]
theorem k98_rg_opens {p : Nat} {v : Int32} (a1 a2 : Int32) (A : y_A) : rg_opens a1 a2 (xm_u2 A 98 p v) = rg_opens a1 a2 A := by
  simp only [rg_opens, r98, c98, k98_m, k98_1, k98_2, k98_i, k98a_m, k98a_1, k98a_2, k98a_i, k98b_m, k98b_1, k98b_2, k98b_3, k98b_i, u98_i, ne_eq, Nat.reduceEqDiff, not_false_eq_true]
theorem k98_rf_fuseTold {p : Nat} {v : Int32} (a1 a2 a3 : Int32) (A : y_A) : rf_fuseTold a1 a2 a3 (xm_u2 A 98 p v) = xm_u2 (rf_fuseTold a1 a2 a3 A) 98 p v := by
  simp only [rf_fuseTold, r98, c98, k98_m, k98_1, k98_2, k98_i, k98a_m, k98a_1, k98a_2, k98a_i, k98b_m, k98b_1, k98b_2, k98b_3, k98b_i, u98_i, ne_eq, Nat.reduceEqDiff, not_false_eq_true, k98_rf_isNamed]
theorem k98_rg_fuseTold {p : Nat} {v : Int32} (a1 a2 a3 : Int32) (A : y_A) : rg_fuseTold a1 a2 a3 (xm_u2 A 98 p v) = rg_fuseTold a1 a2 a3 A := by
  simp only [rg_fuseTold, r98, c98, k98_m, k98_1, k98_2, k98_i, k98a_m, k98a_1, k98a_2, k98a_i, k98b_m, k98b_1, k98b_2, k98b_3, k98b_i, u98_i, ne_eq, Nat.reduceEqDiff, not_false_eq_true, k98_rg_isNamed, k98_rf_isNamed, k98_rg_opens]
theorem k98_rg_alike {p : Nat} {v : Int32} (a1 a2 : Int32) (A : y_A) (js : List y_J) : rg_alike a1 a2 (xm_u2 A 98 p v) js = rg_alike a1 a2 A js := by
  simp only [rg_alike, r98, c98, k98_m, k98_1, k98_2, k98_i, k98a_m, k98a_1, k98a_2, k98a_i, k98b_m, k98b_1, k98b_2, k98b_3, k98b_i, u98_i, ne_eq, Nat.reduceEqDiff, not_false_eq_true]
theorem k98_rf_retryTold_80 {p : Nat} {v : Int32} (N : Nat) : ∀ (l1 l2 l3 l4 : Int32) (A : y_A), rf_retryTold_80 N l1 l2 l3 l4 (xm_u2 A 98 p v) = k98a p v (rf_retryTold_80 N l1 l2 l3 l4 A) := by
  induction N with
  | zero => intros; rfl
  | succ N ih =>
    intros
    simp only [rf_retryTold_80, ih, r98, c98, k98_m, k98_1, k98_2, k98_i, k98a_m, k98a_1, k98a_2, k98a_i, k98b_m, k98b_1, k98b_2, k98b_3, k98b_i, u98_i, ne_eq, Nat.reduceEqDiff, not_false_eq_true]
theorem k98_rg_retryTold_80 {p : Nat} {v : Int32} (N : Nat) : ∀ (l1 l2 l3 l4 : Int32) (A : y_A), rg_retryTold_80 N l1 l2 l3 l4 (xm_u2 A 98 p v) = rg_retryTold_80 N l1 l2 l3 l4 A := by
  induction N with
  | zero => intros; rfl
  | succ N ih =>
    intros
    simp only [rg_retryTold_80, ih, r98, c98, k98_m, k98_1, k98_2, k98_i, k98a_m, k98a_1, k98a_2, k98a_i, k98b_m, k98b_1, k98b_2, k98b_3, k98b_i, u98_i, ne_eq, Nat.reduceEqDiff, not_false_eq_true]
theorem k98_rf_retryTold {p : Nat} {v : Int32} (a1 a2 a3 : Int32) (A : y_A) (js : List y_J) : rf_retryTold a1 a2 a3 (xm_u2 A 98 p v) js = k98 p v (rf_retryTold a1 a2 a3 A js) := by
  simp only [rf_retryTold, r98, c98, k98_m, k98_1, k98_2, k98_i, k98a_m, k98a_1, k98a_2, k98a_i, k98b_m, k98b_1, k98b_2, k98b_3, k98b_i, u98_i, ne_eq, Nat.reduceEqDiff, not_false_eq_true, k98_rf_isNamed, k98_rf_retryTold_80]
theorem k98_rg_retryTold {p : Nat} {v : Int32} (a1 a2 a3 : Int32) (A : y_A) (js : List y_J) : rg_retryTold a1 a2 a3 (xm_u2 A 98 p v) js = rg_retryTold a1 a2 a3 A js := by
  simp only [rg_retryTold, r98, c98, k98_m, k98_1, k98_2, k98_i, k98a_m, k98a_1, k98a_2, k98a_i, k98b_m, k98b_1, k98b_2, k98b_3, k98b_i, u98_i, ne_eq, Nat.reduceEqDiff, not_false_eq_true, k98_rg_isNamed, k98_rf_isNamed, k98_rg_retryTold_80, k98_rg_alike, k98_rf_retryTold_80]
theorem k98_rf_takeBack_8 {p : Nat} {v : Int32} (N : Nat) : ∀ (l1 l2 l3 l4 : Int32) (A : y_A), rf_takeBack_8 N l1 l2 l3 l4 (xm_u2 A 98 p v) = k98a p v (rf_takeBack_8 N l1 l2 l3 l4 A) := by
  induction N with
  | zero => intros; rfl
  | succ N ih =>
    intros
    simp only [rf_takeBack_8, ih, r98, c98, k98_m, k98_1, k98_2, k98_i, k98a_m, k98a_1, k98a_2, k98a_i, k98b_m, k98b_1, k98b_2, k98b_3, k98b_i, u98_i, ne_eq, Nat.reduceEqDiff, not_false_eq_true]
theorem k98_rg_takeBack_8 {p : Nat} {v : Int32} (N : Nat) : ∀ (l1 l2 l3 l4 : Int32) (A : y_A), rg_takeBack_8 N l1 l2 l3 l4 (xm_u2 A 98 p v) = rg_takeBack_8 N l1 l2 l3 l4 A := by
  induction N with
  | zero => intros; rfl
  | succ N ih =>
    intros
    simp only [rg_takeBack_8, ih, r98, c98, k98_m, k98_1, k98_2, k98_i, k98a_m, k98a_1, k98a_2, k98a_i, k98b_m, k98b_1, k98b_2, k98b_3, k98b_i, u98_i, ne_eq, Nat.reduceEqDiff, not_false_eq_true]
theorem k98_rf_takeBack {p : Nat} {v : Int32} (a1 a2 : Int32) (A : y_A) (js : List y_J) : rf_takeBack a1 a2 (xm_u2 A 98 p v) js = k98b p v (rf_takeBack a1 a2 A js) := by
  simp only [rf_takeBack, r98, c98, k98_m, k98_1, k98_2, k98_i, k98a_m, k98a_1, k98a_2, k98a_i, k98b_m, k98b_1, k98b_2, k98b_3, k98b_i, u98_i, ne_eq, Nat.reduceEqDiff, not_false_eq_true, k98_rf_takeBack_8]
theorem k98_rg_takeBack {p : Nat} {v : Int32} (a1 a2 : Int32) (A : y_A) (js : List y_J) : rg_takeBack a1 a2 (xm_u2 A 98 p v) js = rg_takeBack a1 a2 A js := by
  simp only [rg_takeBack, r98, c98, k98_m, k98_1, k98_2, k98_i, k98a_m, k98a_1, k98a_2, k98a_i, k98b_m, k98b_1, k98b_2, k98b_3, k98b_i, u98_i, ne_eq, Nat.reduceEqDiff, not_false_eq_true, k98_rg_takeBack_8, k98_rf_takeBack_8]
theorem k98_rf_hedgeTold {p : Nat} {v : Int32} (a1 a2 : Int32) (A : y_A) (js : List y_J) : rf_hedgeTold a1 a2 (xm_u2 A 98 p v) js = k98 p v (rf_hedgeTold a1 a2 A js) := by
  simp only [rf_hedgeTold, r98, c98, k98_m, k98_1, k98_2, k98_i, k98a_m, k98a_1, k98a_2, k98a_i, k98b_m, k98b_1, k98b_2, k98b_3, k98b_i, u98_i, ne_eq, Nat.reduceEqDiff, not_false_eq_true, k98_rf_otherOf, k98_rf_takeBack]
theorem k98_rg_hedgeTold {p : Nat} {v : Int32} (a1 a2 : Int32) (A : y_A) (js : List y_J) : rg_hedgeTold a1 a2 (xm_u2 A 98 p v) js = rg_hedgeTold a1 a2 A js := by
  simp only [rg_hedgeTold, r98, c98, k98_m, k98_1, k98_2, k98_i, k98a_m, k98a_1, k98a_2, k98a_i, k98b_m, k98b_1, k98b_2, k98b_3, k98b_i, u98_i, ne_eq, Nat.reduceEqDiff, not_false_eq_true, k98_rg_otherOf, k98_rg_alike, k98_rf_otherOf, k98_rg_takeBack]
theorem k98_rf_fallbackTold {p : Nat} {v : Int32} (a1 a2 a3 : Int32) (A : y_A) (js : List y_J) : rf_fallbackTold a1 a2 a3 (xm_u2 A 98 p v) js = k98 p v (rf_fallbackTold a1 a2 a3 A js) := by
  simp only [rf_fallbackTold, r98, c98, k98_m, k98_1, k98_2, k98_i, k98a_m, k98a_1, k98a_2, k98a_i, k98b_m, k98b_1, k98b_2, k98b_3, k98b_i, u98_i, ne_eq, Nat.reduceEqDiff, not_false_eq_true, k98_rf_otherOf, k98_rf_isNamed]
theorem k98_rg_fallbackTold {p : Nat} {v : Int32} (a1 a2 a3 : Int32) (A : y_A) (js : List y_J) : rg_fallbackTold a1 a2 a3 (xm_u2 A 98 p v) js = rg_fallbackTold a1 a2 a3 A js := by
  simp only [rg_fallbackTold, r98, c98, k98_m, k98_1, k98_2, k98_i, k98a_m, k98a_1, k98a_2, k98a_i, k98b_m, k98b_1, k98b_2, k98b_3, k98b_i, u98_i, ne_eq, Nat.reduceEqDiff, not_false_eq_true, k98_rg_otherOf, k98_rf_otherOf, k98_rg_alike, k98_rg_isNamed, k98_rf_isNamed]
theorem k98_rg_fails {p : Nat} {v : Int32} (a1 a2 a3 : Int32) (A : y_A) : rg_fails a1 a2 a3 (xm_u2 A 98 p v) = rg_fails a1 a2 a3 A := by
  simp only [rg_fails, r98, c98, k98_m, k98_1, k98_2, k98_i, k98a_m, k98a_1, k98a_2, k98a_i, k98b_m, k98b_1, k98b_2, k98b_3, k98b_i, u98_i, ne_eq, Nat.reduceEqDiff, not_false_eq_true]
theorem k98_rf_told {p : Nat} {v : Int32} (a1 a2 : Int32) (A : y_A) (js : List y_J) : rf_told a1 a2 (xm_u2 A 98 p v) js = k98 p v (rf_told a1 a2 A js) := by
  simp only [rf_told, r98, c98, k98_m, k98_1, k98_2, k98_i, k98a_m, k98a_1, k98a_2, k98a_i, k98b_m, k98b_1, k98b_2, k98b_3, k98b_i, u98_i, ne_eq, Nat.reduceEqDiff, not_false_eq_true, k98_rf_fuseTold, k98_rf_retryTold, k98_rf_hedgeTold, k98_rf_fallbackTold, k98_rf_isNamed]
theorem k98_rg_told {p : Nat} {v : Int32} (a1 a2 : Int32) (A : y_A) (js : List y_J) : rg_told a1 a2 (xm_u2 A 98 p v) js = rg_told a1 a2 A js := by
  simp only [rg_told, r98, c98, k98_m, k98_1, k98_2, k98_i, k98a_m, k98a_1, k98a_2, k98a_i, k98b_m, k98b_1, k98b_2, k98b_3, k98b_i, u98_i, ne_eq, Nat.reduceEqDiff, not_false_eq_true, k98_rg_fuseTold, k98_rg_alike, k98_rf_fuseTold, k98_rg_retryTold, k98_rg_hedgeTold, k98_rg_fallbackTold, k98_rg_isNamed, k98_rf_isNamed, k98_rg_fails]
theorem k98_rf_ends {p : Nat} {v : Int32} (a1 a2 a3 a4 : Int32) (A : y_A) (js : List y_J) : rf_ends a1 a2 a3 a4 (xm_u2 A 98 p v) js = k98 p v (rf_ends a1 a2 a3 a4 A js) := by
  simp only [rf_ends, r98, c98, k98_m, k98_1, k98_2, k98_i, k98a_m, k98a_1, k98a_2, k98a_i, k98b_m, k98b_1, k98b_2, k98b_3, k98b_i, u98_i, ne_eq, Nat.reduceEqDiff, not_false_eq_true, k98_rf_told]
theorem k98_rg_ends {p : Nat} {v : Int32} (a1 a2 a3 a4 : Int32) (A : y_A) (js : List y_J) : rg_ends a1 a2 a3 a4 (xm_u2 A 98 p v) js = rg_ends a1 a2 a3 a4 A js := by
  simp only [rg_ends, r98, c98, k98_m, k98_1, k98_2, k98_i, k98a_m, k98a_1, k98a_2, k98a_i, k98b_m, k98b_1, k98b_2, k98b_3, k98b_i, u98_i, ne_eq, Nat.reduceEqDiff, not_false_eq_true, k98_rg_told]
theorem k98_rf_failsNow {p : Nat} {v : Int32} (a1 a2 : Int32) (A : y_A) (js : List y_J) : rf_failsNow a1 a2 (xm_u2 A 98 p v) js = k98 p v (rf_failsNow a1 a2 A js) := by
  simp only [rf_failsNow, r98, c98, k98_m, k98_1, k98_2, k98_i, k98a_m, k98a_1, k98a_2, k98a_i, k98b_m, k98b_1, k98b_2, k98b_3, k98b_i, u98_i, ne_eq, Nat.reduceEqDiff, not_false_eq_true]
theorem k98_rg_failsNow {p : Nat} {v : Int32} (a1 a2 : Int32) (A : y_A) (js : List y_J) : rg_failsNow a1 a2 (xm_u2 A 98 p v) js = rg_failsNow a1 a2 A js := by
  simp only [rg_failsNow, r98, c98, k98_m, k98_1, k98_2, k98_i, k98a_m, k98a_1, k98a_2, k98a_i, k98b_m, k98b_1, k98b_2, k98b_3, k98b_i, u98_i, ne_eq, Nat.reduceEqDiff, not_false_eq_true, k98_rg_fails]
theorem k98_rf_freeJoined_4 {p : Nat} {v : Int32} (N : Nat) : ∀ (l1 l2 l3 : Int32) (A : y_A) (js : List y_J), rf_freeJoined_4 N l1 l2 l3 (xm_u2 A 98 p v) js = k98 p v (rf_freeJoined_4 N l1 l2 l3 A js) := by
  induction N with
  | zero => intros; rfl
  | succ N ih =>
    intros
    simp only [rf_freeJoined_4, ih, r98, c98, k98_m, k98_1, k98_2, k98_i, k98a_m, k98a_1, k98a_2, k98a_i, k98b_m, k98b_1, k98b_2, k98b_3, k98b_i, u98_i, ne_eq, Nat.reduceEqDiff, not_false_eq_true]
theorem k98_rg_freeJoined_4 {p : Nat} {v : Int32} (N : Nat) : ∀ (l1 l2 l3 : Int32) (A : y_A) (js : List y_J), rg_freeJoined_4 N l1 l2 l3 (xm_u2 A 98 p v) js = rg_freeJoined_4 N l1 l2 l3 A js := by
  induction N with
  | zero => intros; rfl
  | succ N ih =>
    intros
    simp only [rg_freeJoined_4, ih, r98, c98, k98_m, k98_1, k98_2, k98_i, k98a_m, k98a_1, k98a_2, k98a_i, k98b_m, k98b_1, k98b_2, k98b_3, k98b_i, u98_i, ne_eq, Nat.reduceEqDiff, not_false_eq_true, k98_rg_alike]
theorem k98_rf_freeJoined {p : Nat} {v : Int32} (a1 a2 : Int32) (A : y_A) (js : List y_J) : rf_freeJoined a1 a2 (xm_u2 A 98 p v) js = k98 p v (rf_freeJoined a1 a2 A js) := by
  simp only [rf_freeJoined, r98, c98, k98_m, k98_1, k98_2, k98_i, k98a_m, k98a_1, k98a_2, k98a_i, k98b_m, k98b_1, k98b_2, k98b_3, k98b_i, u98_i, ne_eq, Nat.reduceEqDiff, not_false_eq_true, k98_rf_freeJoined_4]
theorem k98_rg_freeJoined {p : Nat} {v : Int32} (a1 a2 : Int32) (A : y_A) (js : List y_J) : rg_freeJoined a1 a2 (xm_u2 A 98 p v) js = rg_freeJoined a1 a2 A js := by
  simp only [rg_freeJoined, r98, c98, k98_m, k98_1, k98_2, k98_i, k98a_m, k98a_1, k98a_2, k98a_i, k98b_m, k98b_1, k98b_2, k98b_3, k98b_i, u98_i, ne_eq, Nat.reduceEqDiff, not_false_eq_true, k98_rg_freeJoined_4]
theorem k98_rf_takenBack_104 {p : Nat} {v : Int32} (N : Nat) : ∀ (l1 l2 l3 l4 l5 : Int32) (A : y_A), rf_takenBack_104 N l1 l2 l3 l4 l5 (xm_u2 A 98 p v) = rf_takenBack_104 N l1 l2 l3 l4 l5 A := by
  induction N with
  | zero => intros; rfl
  | succ N ih =>
    intros
    simp only [rf_takenBack_104, ih, r98, c98, k98_m, k98_1, k98_2, k98_i, k98a_m, k98a_1, k98a_2, k98a_i, k98b_m, k98b_1, k98b_2, k98b_3, k98b_i, u98_i, ne_eq, Nat.reduceEqDiff, not_false_eq_true]
theorem k98_rg_takenBack_104 {p : Nat} {v : Int32} (N : Nat) : ∀ (l1 l2 l3 l4 l5 : Int32) (A : y_A), rg_takenBack_104 N l1 l2 l3 l4 l5 (xm_u2 A 98 p v) = rg_takenBack_104 N l1 l2 l3 l4 l5 A := by
  induction N with
  | zero => intros; rfl
  | succ N ih =>
    intros
    simp only [rg_takenBack_104, ih, r98, c98, k98_m, k98_1, k98_2, k98_i, k98a_m, k98a_1, k98a_2, k98a_i, k98b_m, k98b_1, k98b_2, k98b_3, k98b_i, u98_i, ne_eq, Nat.reduceEqDiff, not_false_eq_true]
theorem k98_rf_takenBack_131 {p : Nat} {v : Int32} (N : Nat) : ∀ (l1 l2 l3 l4 l5 l6 : Int32) (A : y_A), rf_takenBack_131 N l1 l2 l3 l4 l5 l6 (xm_u2 A 98 p v) = k98a p v (rf_takenBack_131 N l1 l2 l3 l4 l5 l6 A) := by
  induction N with
  | zero => intros; rfl
  | succ N ih =>
    intros
    simp only [rf_takenBack_131, ih, r98, c98, k98_m, k98_1, k98_2, k98_i, k98a_m, k98a_1, k98a_2, k98a_i, k98b_m, k98b_1, k98b_2, k98b_3, k98b_i, u98_i, ne_eq, Nat.reduceEqDiff, not_false_eq_true]
theorem k98_rg_takenBack_131 {p : Nat} {v : Int32} (N : Nat) : ∀ (l1 l2 l3 l4 l5 l6 : Int32) (A : y_A), rg_takenBack_131 N l1 l2 l3 l4 l5 l6 (xm_u2 A 98 p v) = rg_takenBack_131 N l1 l2 l3 l4 l5 l6 A := by
  induction N with
  | zero => intros; rfl
  | succ N ih =>
    intros
    simp only [rg_takenBack_131, ih, r98, c98, k98_m, k98_1, k98_2, k98_i, k98a_m, k98a_1, k98a_2, k98a_i, k98b_m, k98b_1, k98b_2, k98b_3, k98b_i, u98_i, ne_eq, Nat.reduceEqDiff, not_false_eq_true]
theorem k98_rf_takenBack {p : Nat} {v : Int32} (a1 a2 : Int32) (A : y_A) (js : List y_J) : rf_takenBack a1 a2 (xm_u2 A 98 p v) js = k98 p v (rf_takenBack a1 a2 A js) := by
  simp only [rf_takenBack, r98, c98, k98_m, k98_1, k98_2, k98_i, k98a_m, k98a_1, k98a_2, k98a_i, k98b_m, k98b_1, k98b_2, k98b_3, k98b_i, u98_i, ne_eq, Nat.reduceEqDiff, not_false_eq_true, k98_rf_takenBack_131, k98_rf_takenBack_104]
theorem k98_rg_takenBack {p : Nat} {v : Int32} (a1 a2 : Int32) (A : y_A) (js : List y_J) : rg_takenBack a1 a2 (xm_u2 A 98 p v) js = rg_takenBack a1 a2 A js := by
  simp only [rg_takenBack, r98, c98, k98_m, k98_1, k98_2, k98_i, k98a_m, k98a_1, k98a_2, k98a_i, k98b_m, k98b_1, k98b_2, k98b_3, k98b_i, u98_i, ne_eq, Nat.reduceEqDiff, not_false_eq_true, k98_rg_takenBack_104, k98_rg_takenBack_131, k98_rf_takenBack_104, k98_rf_takenBack_131, k98_rg_opens]
theorem k98_rf_gone_4 {p : Nat} {v : Int32} (N : Nat) : ∀ (l1 l2 l3 : Int32) (A : y_A) (js : List y_J), rf_gone_4 N l1 l2 l3 (xm_u2 A 98 p v) js = k98 p v (rf_gone_4 N l1 l2 l3 A js) := by
  induction N with
  | zero => intros; rfl
  | succ N ih =>
    intros
    simp only [rf_gone_4, ih, r98, c98, k98_m, k98_1, k98_2, k98_i, k98a_m, k98a_1, k98a_2, k98a_i, k98b_m, k98b_1, k98b_2, k98b_3, k98b_i, u98_i, ne_eq, Nat.reduceEqDiff, not_false_eq_true]
theorem k98_rg_gone_4 {p : Nat} {v : Int32} (N : Nat) : ∀ (l1 l2 l3 : Int32) (A : y_A) (js : List y_J), rg_gone_4 N l1 l2 l3 (xm_u2 A 98 p v) js = rg_gone_4 N l1 l2 l3 A js := by
  induction N with
  | zero => intros; rfl
  | succ N ih =>
    intros
    simp only [rg_gone_4, ih, r98, c98, k98_m, k98_1, k98_2, k98_i, k98a_m, k98a_1, k98a_2, k98a_i, k98b_m, k98b_1, k98b_2, k98b_3, k98b_i, u98_i, ne_eq, Nat.reduceEqDiff, not_false_eq_true]
theorem k98_rf_gone {p : Nat} {v : Int32} (a1 a2 : Int32) (A : y_A) (js : List y_J) : rf_gone a1 a2 (xm_u2 A 98 p v) js = k98 p v (rf_gone a1 a2 A js) := by
  simp only [rf_gone, r98, c98, k98_m, k98_1, k98_2, k98_i, k98a_m, k98a_1, k98a_2, k98a_i, k98b_m, k98b_1, k98b_2, k98b_3, k98b_i, u98_i, ne_eq, Nat.reduceEqDiff, not_false_eq_true, k98_rf_gone_4]
theorem k98_rg_gone {p : Nat} {v : Int32} (a1 a2 : Int32) (A : y_A) (js : List y_J) : rg_gone a1 a2 (xm_u2 A 98 p v) js = rg_gone a1 a2 A js := by
  simp only [rg_gone, r98, c98, k98_m, k98_1, k98_2, k98_i, k98a_m, k98a_1, k98a_2, k98a_i, k98b_m, k98b_1, k98b_2, k98b_3, k98b_i, u98_i, ne_eq, Nat.reduceEqDiff, not_false_eq_true, k98_rg_gone_4]
theorem k98_do {p : Nat} {v : Int32} (j : y_J) (A : y_A) (js : List y_J) : y_do j (xm_u2 A 98 p v) js = k98 p v (y_do j A js) := by
  simp only [y_do, k98_rf_begins, k98_rf_ends, k98_rf_failsNow, k98_rf_freeJoined, k98_rf_takenBack, k98_rf_gone, k98_i]
theorem k98_ok {p : Nat} {v : Int32} (j : y_J) (A : y_A) (js : List y_J) : y_ok j (xm_u2 A 98 p v) js = y_ok j A js := by
  simp only [y_ok, k98_rg_begins, k98_rg_ends, k98_rg_failsNow, k98_rg_freeJoined, k98_rg_takenBack, k98_rg_gone]
theorem k98_go {p : Nat} {v : Int32} : ∀ (n : Nat) (A : y_A) (js : List y_J) (A' : y_A) (js' : List y_J), y_go n A js A' js' → y_go n (xm_u2 A 98 p v) js (xm_u2 A' 98 p v) js'
  | 0, A, js, A', js', h => ⟨by rw [h.1], h.2⟩
  | n + 1, A, [], A', js', h => h.elim
  | n + 1, A, j :: t, A', js', h => by
    refine ⟨by rw [k98_ok]; exact h.1, ?_⟩
    rw [k98_do]
    exact k98_go n _ _ _ _ h.2
theorem k98_to {p : Nat} {v : Int32} {A A' : y_A} {js js' : List y_J} (h : y_to A js A' js') : y_to (xm_u2 A 98 p v) js (xm_u2 A' 98 p v) js' := ⟨h.choose, k98_go _ _ _ _ _ h.choose_spec⟩
/-- cell 98 stays -/
theorem k98_keep {p : Nat} {A A' : y_A} {js : List y_J} (h : y_to A js A' []) : A' 98 p = A 98 p := by
  have h2 := k98_to (p := p) (v := A 98 p) h
  rw [k_u2id rfl] at h2
  have e := (rf_work_eq h).symm.trans (rf_work_eq h2)
  have e1 : A' = xm_u2 A' 98 p (A 98 p) := congrArg Prod.fst e
  rw [e1]
  exact y_same _ _ _ _
end
