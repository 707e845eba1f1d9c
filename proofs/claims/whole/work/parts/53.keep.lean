/-! what the deeds keep: places are told still -/
theorem shR_val {row : Nat → Int32} {a : Nat} {x : Int32} : ∀ n j, shR row a x n j = if a * 12 ≤ j ∧ j < a * 12 + n ∧ hs row j = true then row j + x else row j
  | 0, j => by rw [if_neg (by omega)]; rfl
  | n + 1, j => by
    have ih := shR_val (row := row) (a := a) (x := x) n
    have e : shR row a x n (a * 12 + n) = row (a * 12 + n) := shR_ge row a x n _ (by omega)
    have eh : hs (shR row a x n) (a * 12 + n) = hs row (a * 12 + n) := by unfold hs; rw [e]
    rw [shR, shS, eh, e]
    by_cases q : j = a * 12 + n
    · subst q
      cases hh : hs row (a * 12 + n) with
      | true => rw [cond_true, upd_same, if_pos ⟨by omega, by omega, rfl⟩]
      | false => rw [cond_false, e, if_neg (fun z => by cases z.2.2)]
    · have : (bif hs row (a * 12 + n) then upd (shR row a x n) (a * 12 + n) (row (a * 12 + n) + x) else shR row a x n) j = shR row a x n j := by
        cases hs row (a * 12 + n) with
        | true => rw [cond_true, upd_ne q]
        | false => rfl
      rw [this, ih j]
      by_cases z : a * 12 ≤ j ∧ j < a * 12 + n ∧ hs row j = true
      · rw [if_pos z, if_pos ⟨z.1, by omega, z.2.2⟩]
      · rw [if_neg z, if_neg (fun w => z ⟨w.1, by omega, w.2.2⟩)]
theorem Pot_shift {row π : Nat → Int32} {a : Nat} {x : Int32} (hr : RG row) (hπ : Pot row π) (h0 : cnt (stayB row a x) 12 = 0) : ∃ π', Pot (shR row a x 12) π' := by
  refine ⟨fun y => if y = 12 + a then π y - x else π y, fun j hj hh => ?_⟩
  have hh' : hs row j = true := by
    cases h : hs row j with
    | true => rfl
    | false =>
      rw [← hh]
      unfold hs at h ⊢
      rw [shR_val, if_neg (fun z => by have := z.2.2; unfold hs at this; rw [h] at this; cases this), h]
  rw [shR_val]
  have e := hπ j hj hh'
  show _ = (if j % 12 = 12 + a then _ else _) - (if 12 + j / 12 = 12 + a then _ else _)
  rw [if_neg (show ¬ j % 12 = 12 + a by omega)]
  by_cases z : a * 12 ≤ j ∧ j < a * 12 + 12
  · rw [if_pos ⟨z.1, z.2, hh'⟩, if_pos (show 12 + j / 12 = 12 + a by omega), e]
    grind
  · rw [if_neg (fun w => z ⟨w.1, w.2.1⟩), if_neg (show ¬ 12 + j / 12 = 12 + a by omega), e]
theorem Pot_lose {row π : Nat → Int32} {j : Nat} (hπ : Pot row π) : Pot (upd row j NONE) π := fun i hi hh => by
  by_cases e : i = j
  · rw [hs_up2, if_pos e] at hh; cases hh
  · rw [hs_up2, if_neg e] at hh
    rw [upd_ne e]
    exact hπ i hi hh
