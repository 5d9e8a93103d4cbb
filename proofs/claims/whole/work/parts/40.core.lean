/-! ===== SOUNDNESS, without hypotheses ===== -/
theorem xm_snd (l : Launch) (D : va_G) (g : xm_G) (α : Nat → Nat → Nat) (base n : Nat) : xm_Snd l D g α base n := xm_sound xm_ckall (xm_intrOK l D g α base) n
