/-! what the deeds keep, part 3 -/
theorem Pot_cm {row π : Nat → Int32} {a b : Nat} (ha : a < 8) (hb : b < 8) (hπ : Pot row π) : ∀ n, n ≤ 12 → Pot (cmR row b a (glB row π a b) n) π
  | 0, _ => hπ
  | n + 1, h => by
    have ih := Pot_cm ha hb hπ n (by omega)
    rw [cmR, cmS]
    cases hc : cmP (cmR row b a (glB row π a b) n) b a n with
    | false => exact ih
    | true =>
      rw [cond_true]
      intro j hj hh
      by_cases e : j = a * 12 + n
      · unfold cmP at hc
        rw [Bool.and_eq_true] at hc
        rw [e, upd_same, Pot_edge hb (show n < 12 by omega) hc.1 ih, show (a * 12 + n) % 12 = n by omega, show (a * 12 + n) / 12 = a by omega]
        unfold glB
        grind
      · rw [hs_up2, if_neg e] at hh
        rw [upd_ne e]
        exact ih j hj hh
theorem Pot_glX {row π : Nat → Int32} {a b : Nat} (ha : a < 8) (hb : b < 8) (hπ : Pot row π) : ∃ π', Pot (glX row a b (glB row π a b)) π' := by
  obtain ⟨π', h⟩ := Pot_drop (a := b) (Pot_cm ha hb hπ 12 (Nat.le_refl 12))
  exact ⟨π', Pot_u (by decide) h⟩
theorem Pot_glR {row π : Nat → Int32} {a b : Nat} (ha : a < 8) (hb : b < 8) (hπ : Pot row π) : ∃ π', Pot (glR row π a b) π' := by
  unfold glR
  cases cB row (12 + a) (12 + b) with
  | false => exact ⟨π, Pot_u (by decide) hπ⟩
  | true =>
    rw [cond_true]
    by_cases h : cnt (stayB row b (glB row π a b)) 12 = 0
    · rw [if_pos h]; exact Pot_glX ha hb hπ
    · rw [if_neg h]; exact ⟨π, Pot_u (by decide) hπ⟩
