/-! ===== THE RELATION of the class's store and the reference's state: equations, kind by kind ===== -/
section
/-- a reference as the reference tells it: -1, or a number -/
def kn (t : Option Nat) : Int32 := match t with
  | none => -1
  | some k => nI k
/-- numbers of things -/
def k_cnt (S : xm_S) (A : y_A) : Prop := A 1 0 = nI (xm_n S 1 0) ∧ A 5 0 = nI (xm_n S 1 1) ∧ A 11 0 = nI (xm_n S 1 2) ∧ A 30 0 = nI (xm_n S 1 3) ∧ A 47 0 = nI (xm_n S 1 4) ∧ A 50 0 = nI (xm_n S 1 5) ∧ A 61 0 = nI (xm_n S 1 6) ∧ A 23 0 = nI (xm_n S 1 8) ∧ A 17 0 = nI (xm_n S 1 9) ∧ A 89 0 = nI (xm_n S 1 10) ∧ A 103 0 = nI (xm_n S 1 11)
/-- at most so many: stations, faults, slownesses, guards, towers, orders, calls, live, failures, effects, plans, alarms -/
def k_bnd (S : xm_S) : Prop := xm_n S 1 0 ≤ 8 ∧ xm_n S 1 1 ≤ 30 ∧ xm_n S 1 2 ≤ 30 ∧ xm_n S 1 3 ≤ 24 ∧ xm_n S 1 4 ≤ 10 ∧ xm_n S 1 5 ≤ 60 ∧ xm_n S 1 6 ≤ 4400 ∧ xm_n S 1 7 ≤ xm_n S 1 6 ∧ xm_n S 1 8 ≤ xm_n S 1 6 ∧ xm_n S 1 9 ≤ xm_n S 1 6 ∧ xm_n S 1 10 ≤ 12 ∧ xm_n S 1 11 ≤ 10
/-- an object's number is its place in its list -/
def k_lst (S : xm_S) : Prop := (∀ k, k < xm_n S 1 0 → xm_l S 0 k = (9, k)) ∧ (∀ k, k < xm_n S 1 3 → xm_l S 3 k = (5, k)) ∧ (∀ k, k < xm_n S 1 4 → xm_l S 4 k = (10, k)) ∧ (∀ k, k < xm_n S 1 5 → xm_l S 5 k = (6, k)) ∧ (∀ k, k < xm_n S 1 6 → xm_l S 6 k = (2, k)) ∧ (∀ k, k < xm_n S 1 8 → xm_l S 8 k = (4, k)) ∧ (∀ k, k < xm_n S 1 9 → xm_l S 9 k = (3, k)) ∧ (∀ k, k < xm_n S 1 10 → xm_l S 10 k = (7, k)) ∧ (∀ k, k < xm_n S 1 11 → xm_l S 11 k = (1, k))
/-- a station -/
def ks (S : xm_S) (A : y_A) (k : Nat) : Prop := xm_i S 9 k 0 = nI k ∧ xm_i S 9 k 1 = A 3 k ∧ xm_i S 9 k 2 = A 4 k ∧ xm_i S 9 k 3 = A 2 k ∧ (1 ≤ A 4 k ∧ A 4 k ≤ 100)
/-- a call -/
def kc (S : xm_S) (A : y_A) (k : Nat) : Prop :=
  xm_i S 2 k 0 = nI k ∧ xm_i S 2 k 3 = A 63 k ∧ xm_i S 2 k 5 = A 67 k ∧ xm_i S 2 k 7 = A 68 k ∧ xm_i S 2 k 8 = A 69 k ∧ xm_i S 2 k 10 = A 71 k ∧ xm_i S 2 k 12 = A 72 k ∧ xm_i S 2 k 14 = A 78 k ∧ xm_i S 2 k 16 = A 73 k ∧
  (∃ o, xm_r S 2 k 1 = some o ∧ o < xm_n S 1 5 ∧ A 62 k = nI o) ∧ A 64 k = kn (xm_r S 2 k 2) ∧ A 65 k = kn (xm_r S 2 k 4) ∧ A 66 k = kn (xm_r S 2 k 6) ∧ A 74 k = kn (xm_r S 2 k 15) ∧
  xm_i S 2 k 9 = (if A 69 k = 1 then A 70 k else -1) ∧ kn (xm_r S 2 k 11) = (if A 69 k = 2 then A 70 k else -1) ∧
  (A 71 k = 0 ∨ A 71 k = 1) ∧ (A 78 k = 0 ∨ A 78 k = 1) ∧ (A 75 k = 0 ∨ A 75 k = 1) ∧ (A 76 k = 0 ∨ A 76 k = 1) ∧ (A 77 k = 0 ∨ A 77 k = 1) ∧ (A 79 k = 0 ∨ A 79 k = 1) ∧ (A 69 k = 0 ∨ A 69 k = 1 ∨ A 69 k = 2 ∨ A 69 k = 3) ∧
  (∀ g, xm_r S 2 k 4 = some g → g < xm_n S 1 3) ∧ (∀ s, xm_r S 2 k 6 = some s → s < xm_n S 1 0) ∧ (∀ p, xm_r S 2 k 2 = some p → p < k) ∧ (∀ l, xm_r S 2 k 15 = some l → l < k) ∧ (∀ f, xm_r S 2 k 11 = some f → f < xm_n S 1 8)
/-- a guard -/
def kg (S : xm_S) (A : y_A) (g : Nat) : Prop :=
  xm_i S 5 g 0 = nI g ∧ xm_i S 5 g 1 = A 31 g ∧ xm_i S 5 g 2 = A 32 g ∧ xm_i S 5 g 3 = A 33 g ∧ xm_i S 5 g 4 = A 34 g ∧ xm_i S 5 g 5 = A 35 g ∧ xm_i S 5 g 6 = A 36 g ∧ xm_i S 5 g 7 = A 37 g ∧ xm_i S 5 g 8 = A 38 g ∧ xm_i S 5 g 10 = A 39 g ∧ xm_i S 5 g 11 = A 41 g ∧ (A 31 g = 2 → xm_i S 5 g 13 = A 42 g) ∧
  (∃ q, xm_r S 5 g 12 = some q ∧ 12 ≤ q ∧ q < xm_n S 0 12 ∧ A 40 g = nI (xm_n S 1 q) ∧ xm_n S 1 q ≤ 10 ∧ ∀ i, i < xm_n S 1 q → ∃ c, xm_l S q i = (2, c) ∧ c < xm_n S 1 6 ∧ A 43 (10 * g + i) = nI c) ∧
  xm_r S 5 g 14 = some g ∧ xm_n S 25 g = 8 ∧ (∀ s, s < 8 → (xm_r S 15 g s = none ∧ A 45 (8 * g + s) = -1) ∨ ∃ c, xm_r S 15 g s = some c ∧ c < xm_n S 1 6 ∧ A 69 c = 1 ∧ A 44 (8 * g + s) = A 70 c ∧ A 45 (8 * g + s) = A 68 c ∧ A 46 (8 * g + s) = A 71 c ∧ 0 ≤ A 68 c)
/-- a failure -/
def kf (S : xm_S) (A : y_A) (k : Nat) : Prop := xm_i S 4 k 0 = nI k ∧ xm_i S 4 k 1 = A 24 k ∧ xm_i S 4 k 2 = A 25 k ∧ A 26 k = kn (xm_r S 4 k 3) ∧ A 27 k = kn (xm_r S 4 k 4) ∧ A 28 k = kn (xm_r S 4 k 5) ∧ A 29 k = kn (xm_r S 4 k 6) ∧ (∀ g, xm_r S 4 k 3 = some g → g < xm_n S 1 3) ∧ (∀ s, xm_r S 4 k 4 = some s → s < xm_n S 1 0) ∧ (∀ f, xm_r S 4 k 5 = some f → f < xm_n S 1 8) ∧ (∀ f, xm_r S 4 k 6 = some f → f < xm_n S 1 8) ∧ (0 ≤ A 24 k ∧ A 24 k ≤ 15)
/-- an effect -/
def ke (S : xm_S) (A : y_A) (k : Nat) : Prop := (∃ s, xm_r S 3 k 0 = some s ∧ s < xm_n S 1 0 ∧ A 18 k = nI s) ∧ (∃ o, xm_r S 3 k 1 = some o ∧ o < xm_n S 1 5 ∧ A 19 k = nI o ∧ xm_i S 6 o 5 = A 20 k) ∧ xm_i S 3 k 2 = A 21 k ∧ xm_i S 3 k 3 = A 22 k
/-- an order (w: it has no call yet) -/
def ko (S : xm_S) (A : y_A) (o : Nat) : Prop := xm_i S 6 o 0 = nI o ∧ (∃ t, xm_r S 6 o 1 = some t ∧ t < xm_n S 1 4 ∧ A 51 o = nI t) ∧ (∃ s, xm_r S 6 o 2 = some s ∧ s < xm_n S 1 0 ∧ A 52 o = nI s) ∧ xm_i S 6 o 3 = A 53 o ∧ xm_i S 6 o 4 = A 54 o ∧ xm_i S 6 o 5 = A 55 o ∧ (0 ≤ A 53 o ∧ A 53 o ≤ 2)
/-- how an order stands, by its first call -/
def k_how (h b : Int32) : Int32 := if h = 1 then (if b = 0 then 1 else 3) else if h = 2 then 2 else if h = 3 then 4 else 0
def kof (S : xm_S) (A : y_A) (o : Nat) : Prop := ∃ f, xm_r S 6 o 6 = some f ∧ f < xm_n S 1 6 ∧ xm_r S 2 f 1 = some o ∧ xm_r S 2 f 2 = none ∧ A 58 o = k_how (A 69 f) (A 71 f) ∧ (A 69 f = 1 ∨ A 69 f = 2 → A 59 o = A 70 f) ∧ A 56 o = A 67 f ∧ A 57 o = A 68 f
/-- a plan -/
def kp (S : xm_S) (A : y_A) (p : Nat) : Prop := (∃ t, xm_r S 7 p 0 = some t ∧ t < xm_n S 1 4 ∧ A 90 p = nI t) ∧ (∃ s, xm_r S 7 p 1 = some s ∧ s < xm_n S 1 0 ∧ A 91 p = nI s) ∧ xm_i S 7 p 2 = A 92 p ∧ xm_i S 7 p 3 = A 93 p ∧ xm_i S 7 p 4 = A 94 p ∧ xm_i S 7 p 5 = A 95 p ∧ xm_i S 7 p 6 = A 96 p ∧ xm_i S 7 p 8 = A 98 p ∧ xm_i S 7 p 9 = A 99 p ∧ xm_i S 7 p 10 = A 100 p ∧ xm_i S 7 p 11 = A 101 p ∧ xm_i S 7 p 12 = (if A 102 p = 0 then 1 else 0) ∧ (A 102 p = 0 ∨ A 102 p = 1) ∧ (0 ≤ A 92 p ∧ A 92 p ≤ 2)
/-- an alarm -/
def ka (S : xm_S) (A : y_A) (k : Nat) : Prop := xm_i S 1 k 0 = A 104 k ∧ xm_i S 1 k 1 = A 105 k ∧ xm_i S 1 k 2 = A 106 k ∧ xm_i S 1 k 3 = A 109 k ∧ xm_i S 1 k 4 = A 107 k ∧ xm_i S 1 k 5 = A 108 k ∧ (A 109 k = 0 ∨ A 109 k = 1) ∧ (A 104 k = 0 → ∃ g, A 105 k = nI g ∧ g < xm_n S 1 3) ∧ (A 104 k = 1 → ∃ s, A 105 k = nI s ∧ s < xm_n S 1 0) ∧ (A 104 k = 2 → ∃ g, A 105 k = nI g ∧ g < xm_n S 1 3) ∧ (A 104 k = 0 ∨ A 104 k = 1 ∨ A 104 k = 2 ∨ A 104 k = 3)
/-- the row that will be a tower, and the towers -/
def kt (S : xm_S) (A : y_A) (t : Nat) (a b : Nat) : Prop := ∃ q, xm_r S 10 t 0 = some q ∧ 12 ≤ q ∧ q < xm_n S 0 12 ∧ xm_n S 1 q ≤ 5 ∧ A 48 a = nI (xm_n S 1 q) ∧ ∀ i, i < xm_n S 1 q → ∃ g, xm_l S q i = (5, g) ∧ g < xm_n S 1 3 ∧ A 49 (b + i) = nI g
/-- a fault or slowness: its place, its object, the fields' numbers -/
def kw (S : xm_S) (A : y_A) (l x k : Nat) : Prop := ∃ e, xm_l S l k = (8, e) ∧ e < xm_n S 0 8 ∧ (∃ s, xm_r S 8 e 0 = some s ∧ s < xm_n S 1 0 ∧ A x k = nI s) ∧ xm_i S 8 e 1 = A (x + 1) k ∧ xm_i S 8 e 2 = A (x + 2) k ∧ xm_i S 8 e 3 = A (x + 3) k ∧ xm_i S 8 e 4 = A (x + 4) k
/-- the calls under way lie in the row of the live, by number -/
def k_live (S : xm_S) : Prop := (∀ i, i < xm_n S 1 7 → ∃ c, xm_l S 7 i = (2, c) ∧ c < xm_n S 1 6) ∧ (∀ i j c e, i < j → j < xm_n S 1 7 → xm_l S 7 i = (2, c) → xm_l S 7 j = (2, e) → c < e) ∧ ∀ c, c < xm_n S 1 6 → xm_i S 2 c 8 = 0 → ∃ i, i < xm_n S 1 7 ∧ xm_l S 7 i = (2, c)
/-- what a call under way waits for -/
def k_rest (S : xm_S) (A : y_A) (k : Nat) : Prop := xm_i S 2 k 13 = (if A 75 k = 1 then 1 else if A 76 k = 1 then 2 else if xm_r S 2 k 15 = none then 0 else 3)
/-- the numbers that all calls of the class share -/
def k_top (S : xm_S) (A : y_A) : Prop := xm_i S 0 0 13 = A 0 0 ∧ 0 ≤ A 0 0 ∧ xm_r S 0 0 12 = some (xm_n S 1 4)
/-- all of it, at rest -/
def kE (S : xm_S) (A : y_A) : Prop := xk_C S ∧ k_cnt S A ∧ k_bnd S ∧ k_lst S ∧ k_top S A ∧ k_live S ∧
  (∀ k, k < xm_n S 1 0 → ks S A k) ∧ (∀ k, k < xm_n S 1 6 → kc S A k) ∧ (∀ k, k < xm_n S 1 3 → kg S A k) ∧ (∀ k, k < xm_n S 1 8 → kf S A k) ∧ (∀ k, k < xm_n S 1 9 → ke S A k) ∧ (∀ k, k < xm_n S 1 5 → ko S A k) ∧ (∀ k, k < xm_n S 1 10 → kp S A k) ∧ (∀ k, k < xm_n S 1 11 → ka S A k) ∧
  kt S A (xm_n S 1 4) 10 50 ∧ (∀ t, t < xm_n S 1 4 → kt S A t t (5 * t)) ∧ (∀ k, k < xm_n S 1 1 → kw S A 1 6 k) ∧ (∀ k, k < xm_n S 1 2 → kw S A 2 12 k)
end
