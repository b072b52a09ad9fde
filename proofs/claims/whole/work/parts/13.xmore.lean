theorem x_uc {M : xM} {t t' : Nat} {x y : Nat × va_E} (h : t ≠ t') : xu (xu M t x) t' y = xu (xu M t' y) t x := by
  funext j
  by_cases h1 : j = t
  · subst h1
    rw [xu_n h, xu_s, xu_s]
  · by_cases h2 : j = t'
    · subst h2
      rw [xu_s, xu_n h1, xu_s]
    · rw [xu_n h2, xu_n h1, xu_n h1, xu_n h2]
