/-! what the deeds keep, part 2 -/
theorem Pot_drop {row π : Nat → Int32} {a : Nat} (hπ : Pot row π) : ∃ π', Pot (tRem row a) π' := by
  refine ⟨fun y => if y < 12 + a then π y else π (y + 1), fun j hj hh => ?_⟩
  have ej := tRem_at (row := row) (a := a) (j := j) (by omega)
  show _ = (if j % 12 < 12 + a then _ else _) - (if 12 + j / 12 < 12 + a then _ else _)
  rw [if_pos (show j % 12 < 12 + a by omega)]
  by_cases q1 : a * 12 ≤ j
  · by_cases q2 : j < 84
    · rw [if_pos ⟨q1, hj⟩, if_pos q2] at ej
      have h2 : hs row (j + 12) = true := by unfold hs at hh ⊢; rw [ej] at hh; exact hh
      have e := hπ (j + 12) (by omega) h2
      rw [ej, if_neg (show ¬ 12 + j / 12 < 12 + a by omega), e, show (j + 12) % 12 = j % 12 by omega, show 12 + (j + 12) / 12 = 12 + j / 12 + 1 by omega]
    · rw [if_pos ⟨q1, hj⟩, if_neg q2] at ej
      exact absurd ej (hs_ne.mp hh)
  · rw [if_neg (by omega)] at ej
    have h2 : hs row j = true := by unfold hs at hh ⊢; rw [ej] at hh; exact hh
    rw [ej, if_pos (show 12 + j / 12 < 12 + a by omega), hπ j hj h2]
