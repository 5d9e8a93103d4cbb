/-! ===== CALLS ARE TAKEN BACK: the marks ===== -/
section
/-- under way, and c or within c -/
def kU (S : xm_S) (c : Nat) : Nat → Nat → Prop
  | 0, _ => False
  | n + 1, k => xm_i S 2 k 8 = 0 ∧ (k = c ∨ ∃ p, xm_r S 2 k 2 = some p ∧ kU S c n p)
theorem kU.st {S : xm_S} {c : Nat} (hp : ∀ k p, k < xm_n S 1 6 → xm_r S 2 k 2 = some p → p < k) : ∀ (m n k : Nat), k < xm_n S 1 6 → k < n → k < m → (kU S c n k ↔ kU S c m k)
  | 0, _, _, _, _, h => absurd h (by omega)
  | _ + 1, 0, _, _, h, _ => absurd h (by omega)
  | m + 1, n + 1, k, hk, h1, h2 => by
    unfold kU
    have e : ∀ p, xm_r S 2 k 2 = some p → (kU S c n p ↔ kU S c m p) := fun p h => by
      have := hp k p hk h
      exact kU.st hp m n p (by omega) (by omega) (by omega)
    constructor
    · rintro ⟨a, b⟩
      refine ⟨a, b.imp id ?_⟩
      rintro ⟨p, x, y⟩
      exact ⟨p, x, (e p x).mp y⟩
    · rintro ⟨a, b⟩
      refine ⟨a, b.imp id ?_⟩
      rintro ⟨p, x, y⟩
      exact ⟨p, x, (e p x).mpr y⟩
/-- the calls that are taken back with c -/
def kT (S : xm_S) (c k : Nat) : Prop := k < xm_n S 1 6 ∧ kU S c (k + 1) k
theorem kT.i {S : xm_S} {c k : Nat} (hp : ∀ k p, k < xm_n S 1 6 → xm_r S 2 k 2 = some p → p < k) (hk : k < xm_n S 1 6) : kT S c k ↔ xm_i S 2 k 8 = 0 ∧ (k = c ∨ ∃ p, xm_r S 2 k 2 = some p ∧ kT S c p) := by
  unfold kT
  constructor
  · rintro ⟨-, a, b⟩
    refine ⟨a, b.imp id ?_⟩
    rintro ⟨p, x, y⟩
    have := hp k p hk x
    exact ⟨p, x, by omega, (kU.st hp (p + 1) k p (by omega) this (by omega)).mp y⟩
  · rintro ⟨a, b⟩
    refine ⟨hk, a, b.imp id ?_⟩
    rintro ⟨p, x, -, y⟩
    have := hp k p hk x
    exact ⟨p, x, (kU.st hp k (p + 1) p (by omega) (by omega) this).mp y⟩
/-- how many of them below K -/
noncomputable def kTn (S : xm_S) (c K : Nat) : Nat := @xs (fun k => @ite Nat (kT S c k) (Classical.propDecidable _) 1 0) K
end
