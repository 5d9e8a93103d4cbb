/-! ===== THE PUBLIC METHODS: what the class answers, the reference answers (printed by wip/whole/gen62.py) ===== -/
section
/-- the class's method m and the reference's m': the same answer, and the relation again -/
def kPub (m m' n : Nat) : Prop := ∀ (as : List Int32), as.length = n → ∀ (S : xm_S) (A : y_A) (t : Nat), kK S A t → t + 100 ≤ 60000 → ∃ (f : Int32) (A' : y_A) (t' : Nat), t' ≤ t + 100 ∧ xc 1000 m (.inr (some (0, 0)) :: as.map .inl) S (fun r S' => r = some (.inl f) ∧ kK S' A' t') ∧ rc 20 m' (.inr (some (11, 0)) :: as.map .inl) A [] (fun r A2 js => r = some (.inl f) ∧ A2 = A' ∧ js = [])
/-- a method that changes nothing -/
theorem kPub.ask {m m' : Nat} {as : List xm_V} {as' : List xm_V} {S : xm_S} {A : y_A} {t d d' : Nat} {f : Int32} (hK : kK S A t) (hd : d ≤ 1000) (hd' : d' ≤ 20) (h : xc d m as S (fun r S' => r = some (.inl f) ∧ S' = S)) (g : rc d' m' as' A [] (y_P f A [])) : ∃ (f : Int32) (A' : y_A) (t' : Nat), t' ≤ t + 100 ∧ xc 1000 m as S (fun r S' => r = some (.inl f) ∧ kK S' A' t') ∧ rc 20 m' as' A [] (fun r A2 js => r = some (.inl f) ∧ A2 = A' ∧ js = []) := by
  refine ⟨f, A, t, by omega, xc.up (xc.mono h ?_) hd, ra.up (ra.mono g ?_) hd'⟩
  · rintro r S' ⟨h1, rfl⟩
    exact ⟨h1, hK⟩
  · rintro r A2 js ⟨h1, h2, h3⟩
    exact ⟨h1, h2, h3⟩
theorem k_l1 : ∀ {as : List Int32}, as.length = 1 → ∃ a, as = [a]
  | [a], _ => ⟨a, rfl⟩
theorem k_l2 : ∀ {as : List Int32}, as.length = 2 → ∃ a b, as = [a, b]
  | [a, b], _ => ⟨a, b, rfl⟩
theorem k_l3 : ∀ {as : List Int32}, as.length = 3 → ∃ a b c, as = [a, b, c]
  | [a, b, c], _ => ⟨a, b, c, rfl⟩
theorem k_l4 : ∀ {as : List Int32}, as.length = 4 → ∃ a b c d, as = [a, b, c, d]
  | [a, b, c, d], _ => ⟨a, b, c, d, rfl⟩
theorem k_l5 : ∀ {as : List Int32}, as.length = 5 → ∃ a b c d e, as = [a, b, c, d, e]
  | [a, b, c, d, e], _ => ⟨a, b, c, d, e, rfl⟩
theorem k_l6 : ∀ {as : List Int32}, as.length = 6 → ∃ a b c d e f, as = [a, b, c, d, e, f]
  | [a, b, c, d, e, f], _ => ⟨a, b, c, d, e, f, rfl⟩
theorem k_l7 : ∀ {as : List Int32}, as.length = 7 → ∃ a b c d e f g, as = [a, b, c, d, e, f, g]
  | [a, b, c, d, e, f, g], _ => ⟨a, b, c, d, e, f, g, rfl⟩
theorem p_now : kPub 72 169 0 := by
  intro as hn S A t hK _
  obtain rfl : as = [] := List.length_eq_zero_iff.mp hn
  obtain ⟨h1, h2⟩ := q_now hK.1.1
  exact kPub.ask hK (by decide) (Nat.le_refl 20) h1 (rh_now (by decide) h2)
theorem p_outcome : kPub 73 170 1 := by
  intro as hn S A t hK _
  obtain ⟨a, rfl⟩ : ∃ a, as = [a] := k_l1 hn
  obtain ⟨h1, h2⟩ := q_outcome hK.1.1 a
  exact kPub.ask hK (by decide) (Nat.le_refl 20) h1 (rh_outcome (by decide) h2)
theorem p_of : kPub 74 171 2 := by
  intro as hn S A t hK _
  obtain ⟨a, b, rfl⟩ : ∃ a b, as = [a, b] := k_l2 hn
  obtain ⟨h1, h2⟩ := q_of hK.1.1 a b
  exact kPub.ask hK (by decide) (Nat.le_refl 20) h1 (rh_of (by decide) h2)
theorem p_failure : kPub 76 121 2 := by
  intro as hn S A t hK _
  obtain ⟨a, b, rfl⟩ : ∃ a b, as = [a, b] := k_l2 hn
  obtain ⟨h1, h2⟩ := q_failure hK.1.1 a b
  exact kPub.ask hK (by decide) (Nat.le_refl 20) h1 (rh_failure (by decide) h2)
theorem p_call : kPub 77 172 2 := by
  intro as hn S A t hK _
  obtain ⟨a, b, rfl⟩ : ∃ a b, as = [a, b] := k_l2 hn
  obtain ⟨h1, h2⟩ := q_call hK.1.1 a b
  exact kPub.ask hK (by decide) (Nat.le_refl 20) h1 (rh_call (by decide) h2)
theorem p_fuse : kPub 78 173 2 := by
  intro as hn S A t hK _
  obtain ⟨a, b, rfl⟩ : ∃ a b, as = [a, b] := k_l2 hn
  obtain ⟨h1, h2⟩ := q_fuse hK.1.1 a b
  exact kPub.ask hK (by decide) (Nat.le_refl 20) h1 (rh_fuse (by decide) h2)
theorem p_bulkhead : kPub 79 174 2 := by
  intro as hn S A t hK _
  obtain ⟨a, b, rfl⟩ : ∃ a b, as = [a, b] := k_l2 hn
  obtain ⟨h1, h2⟩ := q_bulkhead hK.1.1 a b
  exact kPub.ask hK (by decide) (Nat.le_refl 20) h1 (rh_bulkhead (by decide) h2)
theorem p_waiting : kPub 80 175 2 := by
  intro as hn S A t hK _
  obtain ⟨a, b, rfl⟩ : ∃ a b, as = [a, b] := k_l2 hn
  obtain ⟨h1, h2⟩ := q_waiting hK.1.1 a b
  exact kPub.ask hK (by decide) (Nat.le_refl 20) h1 (rh_waiting (by decide) h2)
theorem p_tokens : kPub 81 176 1 := by
  intro as hn S A t hK _
  obtain ⟨a, rfl⟩ : ∃ a, as = [a] := k_l1 hn
  obtain ⟨h1, h2⟩ := q_tokens hK.1.1 a
  exact kPub.ask hK (by decide) (Nat.le_refl 20) h1 (rh_tokens (by decide) h2)
theorem p_kept : kPub 82 177 3 := by
  intro as hn S A t hK _
  obtain ⟨a, b, c, rfl⟩ : ∃ a b c, as = [a, b, c] := k_l3 hn
  obtain ⟨h1, h2⟩ := q_kept hK.1.1 a b c
  exact kPub.ask hK (by decide) (Nat.le_refl 20) h1 (rh_kept (by decide) h2)
theorem p_joined : kPub 83 178 2 := by
  intro as hn S A t hK _
  obtain ⟨a, b, rfl⟩ : ∃ a b, as = [a, b] := k_l2 hn
  obtain ⟨h1, h2⟩ := q_joined hK.1.1 a b
  exact kPub.ask hK (by decide) (Nat.le_refl 20) h1 (rh_joined (by decide) h2)
theorem p_level : kPub 84 179 1 := by
  intro as hn S A t hK _
  obtain ⟨a, rfl⟩ : ∃ a, as = [a] := k_l1 hn
  obtain ⟨h1, h2⟩ := q_level hK.1.1 a
  exact kPub.ask hK (by decide) (Nat.le_refl 20) h1 (rh_level (by decide) h2)
theorem p_effect : kPub 85 180 2 := by
  intro as hn S A t hK _
  obtain ⟨a, b, rfl⟩ : ∃ a b, as = [a, b] := k_l2 hn
  obtain ⟨h1, h2⟩ := q_effect hK.1.1 a b
  exact kPub.ask hK (by decide) (Nat.le_refl 20) h1 (rh_effect (by decide) h2)
theorem p_isOf : kPub 86 118 2 := by
  intro as hn S A t hK _
  obtain ⟨a, b, rfl⟩ : ∃ a b, as = [a, b] := k_l2 hn
  obtain ⟨h1, h2⟩ := q_isOf hK.1.1 hK.1.2.1 a b
  exact kPub.ask hK (by decide) (Nat.le_refl 20) h1 (rh_isOf (by decide) h2)
theorem p_count : kPub 87 181 1 := by
  intro as hn S A t hK _
  obtain ⟨a, rfl⟩ : ∃ a, as = [a] := k_l1 hn
  obtain ⟨h1, h2⟩ := q_count hK.1 a
  exact kPub.ask hK (by decide) (Nat.le_refl 20) h1 (rh_count (by decide) h2)
theorem p_planned : kPub 66 159 2 := by
  intro as hn S A t hK _
  obtain ⟨a, b, rfl⟩ : ∃ a b, as = [a, b] := k_l2 hn
  obtain ⟨h1, h2⟩ := q_planned hK.1.1 a b
  exact kPub.ask hK (by decide) (Nat.le_refl 20) h1 (rh_planned (by decide) h2)
theorem p_alarmed : kPub 71 162 2 := by
  intro as hn S A t hK _
  obtain ⟨a, b, rfl⟩ : ∃ a b, as = [a, b] := k_l2 hn
  obtain ⟨h1, h2⟩ := q_alarmed hK.1.1 a b
  exact kPub.ask hK (by decide) (Nat.le_refl 20) h1 (rh_alarmed (by decide) h2)
end
