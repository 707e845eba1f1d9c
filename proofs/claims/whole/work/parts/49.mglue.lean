/-! the document's own reckoning: deeds, part 8: glue -/
def cmB (row : Nat → Int32) (b a p : Nat) : Bool := hs row (b * 12 + p) && !hs row (a * 12 + p)
def gtB (row : Nat → Int32) (b a : Nat) (dx : Int32) (p : Nat) : Bool := cmB row b a p && !isNb (row (b * 12 + p) + dx)
theorem gt_stay {row π : Nat → Int32} {a b : Nat} (ha : a < 8) (hb : b < 8) (hr : RG row) (hπ : Pot row π) : cnt (stayB row b (glB row π a b)) 12 = 0 ↔ cnt (gtB row b a (glB row π a b)) 12 = 0 := by
  rw [cnt_0, cnt_0]
  refine ⟨fun h i hi => ?_, fun h i hi => ?_⟩
  · have := h i hi
    unfold stayB at this
    unfold gtB cmB
    cases h1 : hs row (b * 12 + i) with
    | false => rfl
    | true => rw [h1, Bool.true_and] at this; rw [this, Bool.and_false]
  · have := h i hi
    unfold gtB cmB at this
    unfold stayB
    cases h1 : hs row (b * 12 + i) with
    | false => rfl
    | true =>
      cases h2 : hs row (a * 12 + i) with
      | false => rw [h1, h2] at this; exact this
      | true =>
        have e1 := Pot_edge hb hi h1 hπ
        have e2 := Pot_edge ha hi h2 hπ
        have e3 : row (b * 12 + i) + glB row π a b = row (a * 12 + i) := by unfold glB; rw [e1, e2]; grind
        rw [e3, hr (a * 12 + i) (by omega) h2]
        rfl
theorem cmR_at {row : Nat → Int32} {a b : Nat} {dx : Int32} : ∀ i j, i ≤ 12 → ¬ (a * 12 ≤ j ∧ j < a * 12 + i) → cmR row b a dx i j = row j
  | 0, _, _, _ => rfl
  | i + 1, j, hi, h => by
    have ih := cmR_at (row := row) (a := a) (b := b) (dx := dx) i j (by omega) (by omega)
    rw [cmR, cmS]
    cases cmP (cmR row b a dx i) b a i with
    | false => exact ih
    | true => rw [cond_true, upd_ne (by omega)]; exact ih
theorem cmP_B {row : Nat → Int32} {a b i : Nat} {dx : Int32} (hab : a ≠ b) (hi : i < 12) : cmP (cmR row b a dx i) b a i = cmB row b a i := by
  have e1 := cmR_at (row := row) (a := a) (b := b) (dx := dx) i (b * 12 + i) (by omega) (by omega)
  have e2 := cmR_at (row := row) (a := a) (b := b) (dx := dx) i (a * 12 + i) (by omega) (by omega)
  unfold cmP cmB hs
  rw [e1, e2]
theorem cmN_c {row : Nat → Int32} {a b : Nat} {dx : Int32} (hab : a ≠ b) : ∀ i, i ≤ 12 → cmN row b a dx i = cnt (cmB row b a) i
  | 0, _ => rfl
  | i + 1, h => by
    have ih := cmN_c (row := row) (dx := dx) hab i (by omega)
    rw [cmN, cmP_B hab (by omega), ih]
    cases hc : cmB row b a i with
    | false => rw [cnt_f hc]; rfl
    | true => rw [cnt_t hc]; rfl
section MD8
variable (S : Nat → Nat → Int32) (R : Nat → Nat) {row : Nat → Int32} {T : Nat} {π : Nat → Int32}
set_option maxRecDepth 100000 in
theorem ev_mgets (hC : CS row T (S 25)) {a b : Nat} (ha : a < 8) (hb : b < 8) (dx : Int32) : EvM kM_gets [.ref 24, .int (nI a), .int (nI b), .int dx] (mk S R) (some (.int (if cnt (gtB row b a dx) 12 = 0 then 10 + nI (cnt (cmB row b a) 12) else 4))) (mk S R) := by
  refine EvM_mk [some (.ref 24), some (.int (nI a)), some (.int (nI b)), some (.int dx), none, none, none, none] rfl rfl rfl rfl rfl (trivial) ?_
  refine G_iconst rfl ?_
  refine H_ist_8_4 rfl rfl ?_
  refine G_iconst rfl ?_
  refine H_ist_8_5 rfl rfl ?_
  refine G_iconst rfl ?_
  refine H_ist_8_6 rfl rfl ?_
  refine down 12 (fun i => ∀ l7, Gm kM_gets 9 [some (.ref 24), some (.int (nI a)), some (.int (nI b)), some (.int dx), some (.int (nI (cnt (cmB row b a) i))), some (.int (b2i (decide (cnt (gtB row b a dx) i = 0)))), some (.int (nI i)), l7] [] (S, PF R, 32) (some (.int (if cnt (gtB row b a dx) 12 = 0 then 10 + nI (cnt (cmB row b a) 12) else 4))) (S, PF R, 32)) (fun l7 => ?_) (fun i hi ih l7 => ?_) none
  · skip
    refine G_iload rfl rfl ?_
    refine G_bipush rfl ?_
    refine G_icmp_ge rfl (fun h => ?_) (fun h => ?_)
    · skip
      refine G_iload rfl rfl ?_
      refine G_if_eq rfl (fun h1 => ?_) (fun h1 => ?_)
      · skip
        refine G_iconst rfl ?_
        exact H_ret rfl rfl ((by rw [if_neg (of_decide_eq_false (b2i_0.mp h1))])) (rfl)
      · skip
        refine G_bipush rfl ?_
        refine G_iload rfl rfl ?_
        refine G_iadd rfl ?_
        refine G_goto rfl ?_
        exact H_ret rfl rfl ((by rw [if_pos (of_decide_eq_true (b2i_n0.mp h1))])) (rfl)
    · exact absurd (by decide) h
  · have ih := ih (some (.int (b2i (cmB row b a i))))
    rw [nI_succ] at ih
    have fin : Gm kM_gets 75 [some (.ref 24), some (.int (nI a)), some (.int (nI b)), some (.int dx), some (.int (nI (cnt (cmB row b a) i))), some (.int (b2i (decide (cnt (gtB row b a dx) (i + 1) = 0)))), some (.int (nI i)), some (.int (b2i (cmB row b a i)))] [] (S, PF R, 32) (some (.int (if cnt (gtB row b a dx) 12 = 0 then 10 + nI (cnt (cmB row b a) 12) else 4))) (S, PF R, 32) := by
      refine G_iload rfl rfl ?_
      refine G_iload rfl rfl ?_
      refine G_if_eq rfl (fun q => ?_) (fun q => ?_)
      · skip
        refine G_iconst rfl ?_
        refine G_iadd rfl ?_
        refine H_ist_8_4 rfl rfl ?_
        refine H_inc_8_6 rfl rfl ?_
        refine G_goto rfl ?_
        rw [cnt_f (b2i_0.mp q), ← Int32.add_zero (nI (cnt (cmB row b a) i))] at ih
        exact ih
      · skip
        refine G_iconst rfl ?_
        refine G_goto rfl ?_
        refine G_iadd rfl ?_
        refine H_ist_8_4 rfl rfl ?_
        refine H_inc_8_6 rfl rfl ?_
        refine G_goto rfl ?_
        rw [cnt_t (b2i_n0.mp q), nI_succ] at ih
        exact ih
    have no : cnt (gtB row b a dx) (i + 1) ≠ 0 → Gm kM_gets 72 [some (.ref 24), some (.int (nI a)), some (.int (nI b)), some (.int dx), some (.int (nI (cnt (cmB row b a) i))), some (.int (b2i (decide (cnt (gtB row b a dx) i = 0)))), some (.int (nI i)), some (.int (b2i (cmB row b a i)))] [] (S, PF R, 32) (some (.int (if cnt (gtB row b a dx) 12 = 0 then 10 + nI (cnt (cmB row b a) 12) else 4))) (S, PF R, 32) := fun e => by
      rw [decide_eq_false e] at fin
      refine G_iconst rfl ?_
      refine H_ist_8_5 rfl rfl ?_
      exact fin
    have yes : cnt (gtB row b a dx) (i + 1) = 0 → Gm kM_gets 68 [some (.ref 24), some (.int (nI a)), some (.int (nI b)), some (.int dx), some (.int (nI (cnt (cmB row b a) i))), some (.int (b2i (decide (cnt (gtB row b a dx) i = 0)))), some (.int (nI i)), some (.int (b2i (cmB row b a i)))] [] (S, PF R, 32) (some (.int (if cnt (gtB row b a dx) 12 = 0 then 10 + nI (cnt (cmB row b a) 12) else 4))) (S, PF R, 32) := fun e => by
      rw [decide_eq_true e] at fin
      refine G_iconst rfl ?_
      refine G_goto rfl ?_
      refine H_ist_8_5 rfl rfl ?_
      exact fin
    have aft : Gm kM_gets 43 [some (.ref 24), some (.int (nI a)), some (.int (nI b)), some (.int dx), some (.int (nI (cnt (cmB row b a) i))), some (.int (b2i (decide (cnt (gtB row b a dx) i = 0)))), some (.int (nI i)), some (.int (b2i (cmB row b a i)))] [] (S, PF R, 32) (some (.int (if cnt (gtB row b a dx) 12 = 0 then 10 + nI (cnt (cmB row b a) 12) else 4))) (S, PF R, 32) := by
      refine G_iload rfl rfl ?_
      refine G_if_eq rfl (fun h0 => ?_) (fun h0 => ?_)
      · exact no (fun z => of_decide_eq_false (b2i_0.mp h0) (cnt_0.mpr (fun j hj => cnt_0.mp z j (by omega))))
      have h0 := of_decide_eq_true (b2i_n0.mp h0)
      refine G_iload rfl rfl ?_
      refine G_if_eq rfl (fun h1 => ?_) (fun h1 => ?_)
      · exact yes (by rw [cnt_f (by rw [gtB, b2i_0.mp h1]; rfl), h0])
      have h1 := b2i_n0.mp h1
      have c4 := ev_mof S R (t := b) (p := i) hb hi
      have hbi : hs row (b * 12 + i) = true := by unfold cmB at h1; rw [Bool.and_eq_true] at h1; exact h1.1
      rw [CR_of hC (by omega) hbi] at c4
      refine G_aload_n rfl rfl ?_
      refine G_iload_n rfl rfl ?_
      refine G_iload rfl rfl ?_
      refine H_callV (c4) rfl rfl rfl rfl rfl rfl rfl rfl ?_
      refine G_iload_n rfl rfl ?_
      refine G_iadd rfl ?_
      refine H_callS (ev_misNumber S R (row (b * 12 + i) + dx)) rfl rfl rfl rfl rfl ?_
      refine G_if_eq rfl (fun h2 => ?_) (fun h2 => ?_)
      · exact no (by rw [cnt_t (by rw [gtB, h1, b2i_0.mp h2]; rfl)]; omega)
      · exact yes (by rw [cnt_f (by rw [gtB, h1, b2i_n0.mp h2]; rfl), h0])
    refine G_iload rfl rfl ?_
    refine G_bipush rfl ?_
    refine G_icmp_ge rfl (fun h => ?_) (fun h => ?_)
    · exact absurd h (ge_no hi (by decide))
    refine G_aload_n rfl rfl ?_
    refine G_iload_n rfl rfl ?_
    refine G_iload rfl rfl ?_
    refine H_callV (ev_mhas S R hC hb hi) rfl rfl rfl rfl rfl rfl rfl rfl ?_
    refine G_if_eq rfl (fun h1 => ?_) (fun h1 => ?_)
    · have e : cmB row b a i = false := by rw [cmB, b2i_0.mp h1]; rfl
      rw [e] at aft
      refine G_iconst rfl ?_
      refine H_ist_8_7 rfl rfl ?_
      exact aft
    have h1 := b2i_n0.mp h1
    refine G_aload_n rfl rfl ?_
    refine G_iload_n rfl rfl ?_
    refine G_iload rfl rfl ?_
    refine H_callV (ev_mhas S R hC ha hi) rfl rfl rfl rfl rfl rfl rfl rfl ?_
    refine G_if_ne rfl (fun h2 => ?_) (fun h2 => ?_)
    · have e : cmB row b a i = false := by rw [cmB, b2i_n0.mp h2, Bool.not_true, Bool.and_false]
      rw [e] at aft
      refine G_iconst rfl ?_
      refine H_ist_8_7 rfl rfl ?_
      exact aft
    · have e : cmB row b a i = true := by rw [cmB, h1, b2i_0.mp (Decidable.of_not_not h2)]; rfl
      rw [e] at aft
      refine G_iconst rfl ?_
      refine G_goto rfl ?_
      refine H_ist_8_7 rfl rfl ?_
      exact aft
end MD8
