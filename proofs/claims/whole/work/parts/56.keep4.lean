/-! what the deeds keep, part 4 -/
theorem Pot_mv {row π : Nat → Int32} {a b : Nat} {x : Int32} (ha : a < 8) (hb : b < 8) (hx : π (12 + b) = π (12 + a) + x) (hπ : Pot row π) : ∀ n, n ≤ 12 → Pot (mvR row a b x n) π
  | 0, _ => hπ
  | n + 1, h => by
    have ih := Pot_mv ha hb hx hπ n (by omega)
    rw [mvR, mvS]
    cases hc : mvP (mvR row a b x n) a x n with
    | false => exact ih
    | true =>
      rw [cond_true]
      refine Pot_lose (fun j hj hh => ?_)
      by_cases e : j = b * 12 + n
      · unfold mvP at hc
        rw [Bool.and_eq_true] at hc
        rw [e, upd_same, Pot_edge ha (show n < 12 by omega) hc.1 ih, show (b * 12 + n) % 12 = n by omega, show (b * 12 + n) / 12 = b by omega, hx]
        grind
      · rw [hs_up2, if_neg e] at hh
        rw [upd_ne e]
        exact ih j hj hh
theorem Pot_cut {row π : Nat → Int32} {a T : Nat} {x : Int32} (hT : NT row T) (ha : a < T) (h8 : T < 8) (hπ : Pot row π) : ∃ π', Pot (mvR (ctR row T) a T x 12) π' := by
  refine ⟨fun y => if y = 12 + T then π (12 + a) + x else π y, Pot_mv (by omega) h8 ?_ ?_ 12 (Nat.le_refl 12)⟩
  · show (if _ then _ else _) = (if _ then _ else _) + x
    rw [if_pos rfl, if_neg (show ¬ 12 + a = 12 + T by omega)]
  · unfold ctR
    refine Pot_u (by decide) (Pot_u (by decide) (fun j hj hh => ?_))
    have jT : j < T * 12 := Decidable.byContradiction fun q => hs_ne.mp hh (hT.2.2 j (by omega) hj)
    show _ = (if j % 12 = 12 + T then _ else _) - (if 12 + j / 12 = 12 + T then _ else _)
    rw [if_neg (show ¬ j % 12 = 12 + T by omega), if_neg (show ¬ 12 + j / 12 = 12 + T by omega)]
    exact hπ j hj hh
