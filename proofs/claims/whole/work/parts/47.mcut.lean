/-! the document's own reckoning: deeds, part 6: cut -/
def ccB (row : Nat → Int32) (a : Nat) (x : Int32) (p : Nat) : Bool := hs row (a * 12 + p) && !decide (row (a * 12 + p) - x ≤ 999)
theorem tBest_gt {row : Nat → Int32} {t : Nat} (ht : t < 8) : ∀ n, n ≤ 12 → ∀ q, q < n → tBest row (nI t) gtI n = nI q → ∀ i, i < n → hs row (t * 12 + i) = true → row (t * 12 + i) ≤ row (t * 12 + q)
  | 0, _, _, h, _, _, _, _ => absurd h (Nat.not_lt_zero _)
  | n + 1, hn, q, hq, e, i, hi, hh => by
    have hx := tBest_ix (row := row) ht gtI n (by omega)
    have ih := tBest_gt (row := row) ht n (by omega)
    rw [tBest, tHas_nI ht (show n < 12 by omega)] at e
    obtain ⟨e4, no⟩ | ⟨r, r1, r2, r3⟩ := hx
    · have ein : i = n := Decidable.byContradiction fun z => by rw [no i (by omega)] at hh; cases hh
      subst ein
      rw [hh, e4] at e
      have : i = q := (nI_eq (show i < 2 ^ 31 by omega) (show q < 2 ^ 31 by omega)).mp e
      rw [this]
      exact Int32.le_refl _
    · have r4 : decide (nI r = -4) = false := decide_eq_false (nI_m4 (by omega))
      rw [r3, r4, Bool.false_or, tAt_nI ht (show n < 12 by omega), tAt_nI ht (show r < 12 by omega)] at e
      cases hc : hs row (t * 12 + n) && gtI (row (t * 12 + n)) (row (t * 12 + r)) with
      | true =>
        rw [hc, cond_true] at e
        have en : n = q := (nI_eq (show n < 2 ^ 31 by omega) (show q < 2 ^ 31 by omega)).mp e
        rw [Bool.and_eq_true] at hc
        have h1 : ¬ row (t * 12 + n) ≤ row (t * 12 + r) := of_decide_eq_true hc.2
        rw [← en]
        by_cases ein : i = n
        · rw [ein]; exact Int32.le_refl _
        · exact Int32.le_trans (ih r r1 r3 i (by omega) hh) (Int32.le_of_lt (Int32.not_le.mp h1))
      | false =>
        rw [hc, cond_false] at e
        have er : r = q := (nI_eq (show r < 2 ^ 31 by omega) (show q < 2 ^ 31 by omega)).mp e
        rw [← er]
        by_cases ein : i = n
        · rw [ein] at hh ⊢
          rw [hh, Bool.true_and] at hc
          exact Decidable.not_not.mp (of_decide_eq_false hc)
        · exact ih r r1 r3 i (by omega) hh
theorem sub_b {x y : Int32} (hx : isNb x = true) (hy : isNb y = true) : (x - y).toInt = x.toInt - y.toInt := by
  have h1 := isNb_iff.mp hx
  have h2 := isNb_iff.mp hy
  rw [Int32.toInt_sub]
  exact Int.bmod_eq_of_le (by omega) (by omega)
theorem ct_cc {row : Nat → Int32} {a : Nat} {x : Int32} (ha : a < 8) (hr : RG row) (hx : isNb x = true) : ctB row a x ↔ cnt (ccB row a x) 12 ≠ 0 := by
  have hix := tBest_ix (row := row) ha gtI 12 (Nat.le_refl 12)
  unfold ctB
  constructor
  · rintro ⟨h1, h2⟩ z
    obtain ⟨e, -⟩ | ⟨q, q1, q2, q3⟩ := hix
    · exact h1 e
    · rw [q3, tAt_nI ha q1] at h2
      have := cnt_0.mp z q q1
      rw [ccB, q2, decide_eq_false h2] at this
      cases this
  · intro z
    have : ∃ p, p < 12 ∧ ccB row a x p = true := Classical.byContradiction fun w => z (cnt_0.mpr (fun i hi => by
      cases h : ccB row a x i with
      | false => rfl
      | true => exact absurd ⟨i, hi, h⟩ w))
    obtain ⟨p, hp, hc⟩ := this
    rw [ccB, Bool.and_eq_true, Bool.not_eq_true', decide_eq_false_iff_not] at hc
    obtain ⟨c1, c2⟩ := hc
    obtain ⟨-, no⟩ | ⟨q, q1, q2, q3⟩ := hix
    · rw [no p hp] at c1; cases c1
    · have le := tBest_gt (row := row) ha 12 (Nat.le_refl 12) q q1 q3 p hp c1
      rw [q3, tAt_nI ha q1]
      refine ⟨nI_m4 (by omega), fun w => c2 ?_⟩
      have e1 := sub_b (hr (a * 12 + p) (by omega) c1) hx
      have e2 := sub_b (hr (a * 12 + q) (by omega) q2) hx
      rw [Int32.le_iff_toInt_le] at le w ⊢
      omega
theorem mvR_ge {row : Nat → Int32} {a b : Nat} {x : Int32} (hab : a ≠ b) : ∀ i j, i ≤ j → i ≤ 12 → j < 12 → mvR row a b x i (a * 12 + j) = row (a * 12 + j)
  | 0, _, _, _, _ => rfl
  | i + 1, j, h, hi, hj => by
    have ih := mvR_ge (row := row) (x := x) hab i j (by omega) (by omega) hj
    rw [mvR, mvS]
    cases mvP (mvR row a b x i) a x i with
    | false => exact ih
    | true => rw [cond_true, upd_ne (by omega), upd_ne (by omega)]; exact ih
section MD6
variable (S : Nat → Nat → Int32) (R : Nat → Nat) {row : Nat → Int32} {T : Nat} {π : Nat → Int32}
set_option maxRecDepth 100000 in
theorem ev_mcanCut (hC : CS row T (S 25)) {a : Nat} (ha : a < 8) (x : Int32) : EvM kM_canCut [.ref 24, .int (nI a), .int x] (mk S R) (some (.int (b2i (decide (cnt (ccB row a x) 12 = 0))))) (mk S R) := by
  refine EvM_mk [some (.ref 24), some (.int (nI a)), some (.int x), none, none] rfl rfl rfl rfl rfl (okb _) ?_
  refine G_iconst rfl ?_
  refine H_ist_5_3 rfl rfl ?_
  refine G_iconst rfl ?_
  refine H_ist_5_4 rfl rfl ?_
  refine down 12 (fun i => Gm kM_canCut 5 [some (.ref 24), some (.int (nI a)), some (.int x), some (.int (b2i (decide (cnt (ccB row a x) i = 0)))), some (.int (nI i))] [] (S, PF R, 32) _ _) ?_ (fun i hi ih => ?_)
  · skip
    refine G_iload rfl rfl ?_
    refine G_bipush rfl ?_
    refine G_icmp_ge rfl (fun h => ?_) (fun h => ?_)
    · skip
      refine G_iload_n rfl rfl ?_
      exact H_ret rfl rfl (rfl) (rfl)
    · exact absurd (by decide) h
  · rw [nI_succ] at ih
    have no : cnt (ccB row a x) (i + 1) ≠ 0 → Gm kM_canCut 45 [some (.ref 24), some (.int (nI a)), some (.int x), some (.int (b2i (decide (cnt (ccB row a x) i = 0)))), some (.int (nI i))] [] (S, PF R, 32) (some (.int (b2i (decide (cnt (ccB row a x) 12 = 0))))) (S, PF R, 32) := fun e => by
      rw [decide_eq_false e] at ih
      refine G_iconst rfl ?_
      refine H_ist_5_3 rfl rfl ?_
      refine H_inc_5_4 rfl rfl ?_
      refine G_goto rfl ?_
      exact ih
    have yes : cnt (ccB row a x) (i + 1) = 0 → Gm kM_canCut 41 [some (.ref 24), some (.int (nI a)), some (.int x), some (.int (b2i (decide (cnt (ccB row a x) i = 0)))), some (.int (nI i))] [] (S, PF R, 32) (some (.int (b2i (decide (cnt (ccB row a x) 12 = 0))))) (S, PF R, 32) := fun e => by
      rw [decide_eq_true e] at ih
      refine G_iconst rfl ?_
      refine G_goto rfl ?_
      refine H_ist_5_3 rfl rfl ?_
      refine H_inc_5_4 rfl rfl ?_
      refine G_goto rfl ?_
      exact ih
    refine G_iload rfl rfl ?_
    refine G_bipush rfl ?_
    refine G_icmp_ge rfl (fun h => ?_) (fun h => ?_)
    · exact absurd h (ge_no hi (by decide))
    refine G_iload_n rfl rfl ?_
    refine G_if_eq rfl (fun h0 => ?_) (fun h0 => ?_)
    · exact no (fun z => of_decide_eq_false (b2i_0.mp h0) (cnt_0.mpr (fun j hj => cnt_0.mp z j (by omega))))
    have h0 := of_decide_eq_true (b2i_n0.mp h0)
    refine G_aload_n rfl rfl ?_
    refine G_iload_n rfl rfl ?_
    refine G_iload rfl rfl ?_
    refine H_callV (ev_mhas S R hC ha hi) rfl rfl rfl rfl rfl rfl rfl rfl ?_
    refine G_if_eq rfl (fun h1 => ?_) (fun h1 => ?_)
    · exact yes (by rw [cnt_f (by rw [ccB, b2i_0.mp h1]; rfl), h0])
    have h1 := b2i_n0.mp h1
    have c4 := ev_mof S R (t := a) (p := i) ha hi
    rw [CR_of hC (by omega) h1] at c4
    refine G_aload_n rfl rfl ?_
    refine G_iload_n rfl rfl ?_
    refine G_iload rfl rfl ?_
    refine H_callV (c4) rfl rfl rfl rfl rfl rfl rfl rfl ?_
    refine G_iload_n rfl rfl ?_
    refine G_isub rfl ?_
    refine G_sipush rfl ?_
    refine G_icmp_gt rfl (fun h2 => ?_) (fun h2 => ?_)
    · exact no (by rw [cnt_t (by rw [ccB, h1, decide_eq_false (Int32.not_le.mpr h2)]; rfl)]; omega)
    · exact yes (by rw [cnt_f (by rw [ccB, h1, decide_eq_true (Int32.not_lt.mp h2)]; rfl), h0])
end MD6
