/-! ===== INVARIANTS of the calls, the guards and what they hold ===== -/
section
/-- the guard g stands at depth e of the order's tower -/
def k_tw (S : xm_S) (o e g : Nat) : Prop := ∃ t q, xm_r S 6 o 1 = some t ∧ xm_r S 10 t 0 = some q ∧ e < xm_n S 1 q ∧ xm_l S q e = (5, g)
/-- parents: of the same order, one less deep, with a guard; under way if the child is -/
def k_par (S : xm_S) : Prop := ∀ k, k < xm_n S 1 6 → (xm_r S 2 k 2 = none → xm_i S 2 k 3 = 0 ∧ ∀ o, xm_r S 2 k 1 = some o → xm_r S 6 o 6 = some k) ∧ (xm_r S 2 k 4 = none → ∃ s, xm_r S 2 k 6 = some s) ∧ (∀ p, xm_r S 2 k 2 = some p → xm_r S 2 p 1 = xm_r S 2 k 1 ∧ xm_i S 2 k 3 = xm_i S 2 p 3 + 1 ∧ (∃ g, xm_r S 2 p 4 = some g) ∧ (xm_i S 2 k 8 = 0 → xm_i S 2 p 8 = 0)) ∧ ∃ e, e ≤ 5 ∧ xm_i S 2 k 3 = nI e ∧ ∀ g o, xm_r S 2 k 4 = some g → xm_r S 2 k 1 = some o → k_tw S o e g
/-- no two guards of one sort in a tower, or in the row -/
def k_dst (S : xm_S) : Prop := ∀ t q, t ≤ xm_n S 1 4 → xm_r S 10 t 0 = some q → ∀ i j g e, i < j → j < xm_n S 1 q → xm_l S q i = (5, g) → xm_l S q j = (5, e) → xm_i S 5 g 1 ≠ xm_i S 5 e 1
/-- every queue and every tower has a list of its own -/
def k_own (S : xm_S) : Prop := (∀ g e q, g < xm_n S 1 3 → e < xm_n S 1 3 → xm_r S 5 g 12 = some q → xm_r S 5 e 12 = some q → g = e) ∧ (∀ t u q, t ≤ xm_n S 1 4 → u ≤ xm_n S 1 4 → xm_r S 10 t 0 = some q → xm_r S 10 u 0 = some q → t = u) ∧ ∀ g t q, g < xm_n S 1 3 → t ≤ xm_n S 1 4 → xm_r S 5 g 12 = some q → xm_r S 10 t 0 = some q → False
/-- how many objects there are; every list is begun; capacities -/
def k_obj (S : xm_S) : Prop := xm_n S 0 9 = xm_n S 1 0 ∧ xm_n S 0 5 = xm_n S 1 3 ∧ xm_n S 0 10 = xm_n S 1 4 + 1 ∧ xm_n S 0 6 = xm_n S 1 5 ∧ xm_n S 0 2 = xm_n S 1 6 ∧ xm_n S 0 4 = xm_n S 1 8 ∧ xm_n S 0 3 = xm_n S 1 9 ∧ xm_n S 0 7 = xm_n S 1 10 ∧ xm_n S 0 1 = xm_n S 1 11 ∧ xm_n S 0 15 = xm_n S 1 3 ∧ xm_n S 0 8 = xm_n S 1 1 + xm_n S 1 2 ∧ xm_n S 0 12 = 13 + xm_n S 1 3 + xm_n S 1 4 ∧ xm_n S 0 0 = 1 ∧ xm_n S 0 11 = 1 ∧ xm_n S 0 13 = 85 ∧ xm_n S 0 14 = 10
def k_cap (S : xm_S) : Prop := (∀ j, j < xm_n S 0 12 → xm_n S 2 j ≠ 0) ∧ (∀ j, j < 12 → xm_n S 2 j ≤ 200 + 2 * xm_n S 1 6) ∧ ∀ j, 12 ≤ j → j < xm_n S 0 12 → (xm_n S 2 j = 1 ∧ xm_n S 1 j = 0) ∨ xm_n S 2 j = 10
/-- inner calls: the latest, the one before -/
def k_chn (S : xm_S) : Prop := (∀ p, p < xm_n S 1 6 → (xm_r S 2 p 17 = none → ∀ c, c < xm_n S 1 6 → xm_r S 2 c 2 ≠ some p) ∧ (∀ c, xm_r S 2 p 17 = some c → c < xm_n S 1 6 ∧ xm_r S 2 c 2 = some p ∧ ∀ e, e < xm_n S 1 6 → xm_r S 2 e 2 = some p → e ≤ c) ∧ ∃ n, n ≤ 6 ∧ xm_i S 2 p 16 = nI n ∧ (n = 0 ↔ xm_r S 2 p 17 = none) ∧ (∀ c, xm_r S 2 p 17 = some c → (n = 1 ↔ xm_r S 2 c 18 = none) ∧ ∀ b, xm_r S 2 c 18 = some b → (n = 2 ↔ xm_r S 2 b 18 = none))) ∧
  ∀ c p, c < xm_n S 1 6 → xm_r S 2 c 2 = some p → (xm_r S 2 c 18 = none → ∀ e, e < xm_n S 1 6 → xm_r S 2 e 2 = some p → c ≤ e) ∧ ∀ b, xm_r S 2 c 18 = some b → b < c ∧ xm_r S 2 b 2 = some p ∧ ∀ e, e < xm_n S 1 6 → xm_r S 2 e 2 = some p → e < c → e ≤ b
/-- under way, or taken back and not yet released -/
def k_act (S : xm_S) (X : Nat → Prop) (k : Nat) : Prop := xm_i S 2 k 8 = 0 ∨ X k
/-- what a call is to its guard -/
def k_occ (S : xm_S) (A : y_A) (X E : Nat → Prop) : Prop := ∀ k, k < xm_n S 1 6 → (k_act S X k → k_rest S A k) ∧ (A 75 k = 1 ∨ A 77 k = 1 → ∃ g, xm_r S 2 k 4 = some g ∧ A 31 g = 1) ∧ (A 76 k = 1 → ∃ g, xm_r S 2 k 4 = some g ∧ A 31 g = 4) ∧ (A 79 k = 1 → ∃ g, xm_r S 2 k 4 = some g ∧ A 31 g = 0) ∧ (A 78 k = 1 ∨ xm_r S 2 k 15 ≠ none → ∃ g, xm_r S 2 k 4 = some g ∧ A 31 g = 8) ∧ ∀ g, xm_r S 2 k 4 = some g → k_act S X k → ¬ E k → (A 31 g = 1 → (A 77 k = 1 ↔ ¬ A 75 k = 1)) ∧ (A 79 k = 1 ↔ xm_r S 5 g 9 = some k)
def k_tri (S : xm_S) (A : y_A) (X E : Nat → Prop) : Prop := ∀ g c, g < xm_n S 1 3 → xm_r S 5 g 9 = some c → c < xm_n S 1 6 ∧ k_act S X c ∧ ¬ E c ∧ xm_r S 2 c 4 = some g ∧ A 79 c = 1 ∧ A 36 g = 2
def k_que (S : xm_S) (A : y_A) (X : Nat → Prop) : Prop := ∀ g q, g < xm_n S 1 3 → xm_r S 5 g 12 = some q → (∀ i c, i < xm_n S 1 q → xm_l S q i = (2, c) → k_act S X c ∧ xm_r S 2 c 4 = some g ∧ A 75 c = 1 ∧ xm_i S 2 c 16 = 0) ∧ (∀ i j, i < j → j < xm_n S 1 q → xm_l S q i ≠ xm_l S q j) ∧ ∀ c, c < xm_n S 1 6 → k_act S X c → xm_r S 2 c 4 = some g → A 75 c = 1 → ∃ i, i < xm_n S 1 q ∧ xm_l S q i = (2, c)
/-- what a call under way has of inner ones, by its guard's sort -/
def k_sts (S : xm_S) (A : y_A) (E B : Nat → Prop) (hb rb : Nat) : Prop := (∀ k c, E k → c < xm_n S 1 6 → xm_r S 2 c 2 = some k → xm_i S 2 c 8 ≠ 0) ∧ ∀ k g, k < xm_n S 1 6 → xm_i S 2 k 8 = 0 → xm_r S 2 k 4 = some g → (¬ E k → ¬ B k → A 31 g = 3 → xm_i S 2 k 16 = 1 ∧ ∃ c, xm_r S 2 k 17 = some c ∧ xm_i S 2 c 8 = 0) ∧ (A 31 g = 4 ∨ A 31 g = 6 → ∀ c, c < xm_n S 1 6 → xm_r S 2 c 2 = some k → xm_r S 2 k 17 ≠ some c → xm_i S 2 c 8 = 2) ∧ (A 31 g = 4 → (A 76 k = 1 → A 73 k < A 32 g ∧ ∀ c, xm_r S 2 k 17 = some c → xm_i S 2 c 8 = 2) ∧ (A 76 k = 1 ∨ A 72 k < A 0 0 ∨ (A 72 k = A 0 0 ∧ k < rb))) ∧ (A 31 g = 5 → (xm_i S 2 k 16 = 0 ∧ B k) ∨ xm_i S 2 k 16 = 1 ∨ (xm_i S 2 k 16 = 2 ∧ (A 72 k < A 0 0 ∨ (A 72 k = A 0 0 ∧ k < hb)))) ∧ (A 31 g ≠ 4 → A 31 g ≠ 5 → A 31 g ≠ 6 → xm_i S 2 k 16 = 0 ∨ xm_i S 2 k 16 = 1) ∧ (A 31 g = 6 → xm_i S 2 k 16 = 0 ∨ xm_i S 2 k 16 = 1 ∨ xm_i S 2 k 16 = 2)
/-- orders that ask alike -/
def k_lik (S : xm_S) (k e : Nat) : Prop := ∃ o u, xm_r S 2 k 1 = some o ∧ xm_r S 2 e 1 = some u ∧ xm_r S 6 o 2 = xm_r S 6 u 2 ∧ xm_i S 6 o 3 = xm_i S 6 u 3 ∧ xm_i S 6 o 4 = xm_i S 6 u 4
/-- of those that lead, alike and of one guard, one at most is under way; what is JOINED is alike -/
def k_uni (S : xm_S) : Prop := (∀ k e, k < xm_n S 1 6 → e < xm_n S 1 6 → xm_i S 2 k 8 = 0 → xm_i S 2 e 8 = 0 → xm_i S 2 k 14 = 1 → xm_i S 2 e 14 = 1 → xm_r S 2 k 4 = xm_r S 2 e 4 → k_lik S k e → k = e) ∧ (∀ k g, k < xm_n S 1 6 → xm_r S 2 k 4 = some g → xm_i S 5 g 1 = 8 → xm_i S 2 k 16 = 0 ∨ xm_i S 2 k 14 = 1) ∧ ∀ k l, k < xm_n S 1 6 → xm_r S 2 k 15 = some l → xm_r S 2 k 4 = xm_r S 2 l 4 ∧ k_lik S k l ∧ xm_i S 2 l 14 = 1 ∧ xm_i S 2 k 14 = 0 ∧ xm_i S 2 k 16 = 0
/-- how many calls stand so -/
def k_hows (S : xm_S) (v : Int32) : Nat := xs (fun k => if xm_i S 2 k 8 = v then 1 else 0) (xm_n S 1 6)
def k_num (S : xm_S) (A : y_A) (e1 e2 : Nat) : Prop := xm_n S 1 8 ≤ k_hows S 2 + e2 ∧ xm_n S 1 9 ≤ k_hows S 1 + e1 ∧ ∃ T, xm_i S 0 0 15 = nI T ∧ T ≤ k_hows S 3 ∧ A 82 0 = nI (k_hows S 3) ∧ ∀ k, k < xm_n S 1 6 → (∃ s, s ≤ T ∧ xm_i S 2 k 19 = nI s) ∧ (xm_i S 2 k 8 = 2 → ∃ f, xm_r S 2 k 11 = some f) ∧ (xm_i S 2 k 8 = 0 → xm_i S 2 k 10 = 0)
/-- how many inner ones a guard may begin; the calls that a tower may have from a depth on -/
def k_mul (S : xm_S) (g : Nat) : Nat := if xm_i S 5 g 1 = 4 then y_ix (xm_i S 5 g 2) else if xm_i S 5 g 1 = 5 then 2 else 1
def k_cp (S : xm_S) (q : Nat) : Nat → Nat → Nat
  | _, 0 => 1
  | i, m + 1 => 1 + k_mul S (xm_l S q i).2 * k_cp S q (i + 1) m + (if xm_i S 5 (xm_l S q i).2 1 = 6 then 1 else 0)
/-- what a call may still bring -/
def k_po (S : xm_S) (k : Nat) : Nat := match xm_r S 2 k 4, xm_r S 2 k 1 with
  | some g, some o => (match xm_r S 6 o 1 with
    | some t => (match xm_r S 10 t 0 with
      | some q => (k_mul S g - y_ix (xm_i S 2 k 16)) * k_cp S q (y_ix (xm_i S 2 k 3) + 1) (xm_n S 1 q - (y_ix (xm_i S 2 k 3) + 1)) + (if xm_i S 5 g 1 = 6 ∧ y_ix (xm_i S 2 k 16) < 2 then 1 else 0)
      | none => 0)
    | none => 0)
  | _, _ => 0
def k_pot (S : xm_S) (w : Nat) : Prop := xm_n S 1 6 + xs (k_po S) (xm_n S 1 6) + 67 * w ≤ 67 * xm_n S 1 5
/-- ranges of numbers; plans: the second in which one is due -/
def k_spn (S : xm_S) (A : y_A) : Prop := (∀ k, k < xm_n S 1 0 → 0 ≤ A 2 k ∧ A 2 k ≤ A 3 k ∧ A 3 k ≤ 1000000) ∧ (∀ k, k < xm_n S 1 1 → 1 ≤ A 10 k ∧ A 10 k ≤ 7) ∧ (∀ k, k < xm_n S 1 2 → 1 ≤ A 16 k ∧ A 16 k ≤ 1000) ∧ (∀ o, o < xm_n S 1 5 → 0 ≤ A 54 o ∧ A 54 o ≤ 1000000) ∧ ∀ p, p < xm_n S 1 10 → 0 ≤ A 93 p ∧ A 93 p ≤ 1000000
def k_pln (S : xm_S) (A : y_A) (t nb : Nat) : Prop := k_spn S A ∧ ∀ p, p < xm_n S 1 10 → ∃ m a e, 1 ≤ e ∧ e ≤ 1000 ∧ a ≤ t ∧ A 97 p = nI a ∧ A 94 p = nI e ∧ (xm_i S 7 p 12 = 1 → xm_i S 7 p 7 = nI (a + m * e) ∧ (t < a + m * e ∨ (t = a + m * e ∧ nb ≤ 4500 + p)) ∧ a + m * e ≤ t + e ∧ (nb ≤ 4500 + p → a + m * e < t + e))
/-- the whole: X taken back and not yet released; E about to end; B begun, without an inner one yet; hb, rb, nb: how far a second has gone; t the time; w = 1: the latest order has no call yet; e1, e2: an effect, a failure ahead of its end -/
def kI (S : xm_S) (A : y_A) (X E B : Nat → Prop) (hb rb nb t w e1 e2 : Nat) : Prop :=
  k_par S ∧ k_dst S ∧ k_own S ∧ k_obj S ∧ k_cap S ∧ k_chn S ∧ k_occ S A X E ∧ k_tri S A X E ∧ k_que S A X ∧ k_sts S A E B hb rb ∧ k_uni S ∧ k_num S A e1 e2 ∧ k_pot S w ∧ k_pln S A t nb ∧ A 0 0 = nI t ∧ t ≤ 60000 ∧ (∀ k, nb ≤ k → k < xm_n S 1 6 → A 72 k ≠ A 0 0) ∧ (∀ o, o + w < xm_n S 1 5 → kof S A o)
/-- at rest -/
def kK (S : xm_S) (A : y_A) (t : Nat) : Prop := kR S A ∧ kI S A (fun _ => False) (fun _ => False) (fun _ => False) 5000 5000 5000 t 0 0 0
end
