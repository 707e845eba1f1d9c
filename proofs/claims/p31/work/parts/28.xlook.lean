/-! LostZeros: the looks -/
noncomputable def a_reading (row : Nat → Int32) (t p : Int32) : Int32 := bif tIs row t && isPt p then (bif tHas row t p then 100000 + tAt row t p else -4) else -1
noncomputable def a_diff (row π : Nat → Int32) (x y w : Int32) : Int32 := bif isPt x && (isPt y && (decide (¬ w < 0) && decide (¬ 1 < w))) then fV row π x.toNatClampNeg y.toNatClampNeg else -1
noncomputable def a_follows (row π : Nat → Int32) (t p : Int32) : Int32 := bif tIs row t && isPt p then fV row π (12 + t.toNatClampNeg) p.toNatClampNeg else -1
noncomputable def a_zeros (row π : Nat → Int32) (t o : Int32) : Int32 := bif tIs row t && tIs row o then fV row π (12 + t.toNatClampNeg) (12 + o.toNatClampNeg) else -1
noncomputable def a_whyNot (row π : Nat → Int32) (t p x : Int32) : Int32 := bif tIs row t && (isPt p && isNb x) then rsV row π t.toNatClampNeg p.toNatClampNeg x else -1
noncomputable def a_holding (row : Nat → Int32) (w : Int32) : Int32 := bif decide (¬ w < 0) && decide (¬ 1 < w) then nI (brs row) else -1
noncomputable def a_ifRead (row : Nat → Int32) (t p : Int32) : Int32 := bif tIs row t && isPt p then nI (nP row t.toNatClampNeg p.toNatClampNeg) else -1
noncomputable def a_sign (row : Nat → Int32) (t q : Int32) : Int32 := bif tIs row t && decide (¬ q < 0) then sgn (wl row t.toNatClampNeg 12) q else -1
noncomputable def a_best (row : Nat → Int32) (T : Nat) : Int32 := if T = 0 then -4 else nI (bR row (T * 12)).1
noncomputable def a_known (row : Nat → Int32) : UInt64 := FP.ddiv (FP.i2d (nI (kE row 12 / 2))) K66
section XL
variable (S : Nat → Nat → Int32) (R : Nat → Nat) {T : Nat} (hT : NT (S 2) T) {π : Nat → Int32} (hπ : Pot (S 2) π)
set_option maxRecDepth 100000 in
theorem xl_reading (t p : Int32) : EvM kX_reading [.ref 0, .int t, .int p] (mk S R) (some (.int (a_reading (S 2) t p))) (mk S R) := by
  have hq : TQ 1 2 := Or.inl ⟨rfl, rfl⟩
  unfold a_reading
  refine EvM_mk [some (.ref 0), some (.int t), some (.int p)] rfl rfl rfl rfl rfl (trivial) ?_
  refine G_aload_n rfl rfl ?_
  refine H_getR rfl rfl rfl rfl rfl rfl ?_
  refine G_iload_n rfl rfl ?_
  refine H_callV (ev_isTape hq S R t) rfl rfl rfl rfl rfl rfl rfl rfl ?_
  refine G_if_eq rfl (fun h1 => ?_) (fun h1 => ?_)
  · skip
    refine G_iconst rfl ?_
    exact H_ret rfl rfl ((by rw [b2i_0.mp h1]; rfl)) (rfl)
  have h1 := b2i_n0.mp h1
  refine G_iload_n rfl rfl ?_
  refine H_callS (ev_isPoint S R p) rfl rfl rfl rfl rfl ?_
  refine G_if_ne rfl (fun h2 => ?_) (fun h2 => ?_)
  · have h2 := b2i_n0.mp h2
    refine G_aload_n rfl rfl ?_
    refine H_getR rfl rfl rfl rfl rfl rfl ?_
    refine G_iload_n rfl rfl ?_
    refine G_iload_n rfl rfl ?_
    refine H_callV (ev_has hq S R t p) rfl rfl rfl rfl rfl rfl rfl rfl ?_
    refine G_if_eq rfl (fun h3 => ?_) (fun h3 => ?_)
    · skip
      refine G_bipush rfl ?_
      exact H_ret rfl rfl ((by rw [h1, h2, b2i_0.mp h3]; rfl)) (rfl)
    refine G_ldc rfl ?_
    refine G_aload_n rfl rfl ?_
    refine H_getR rfl rfl rfl rfl rfl rfl ?_
    refine G_iload_n rfl rfl ?_
    refine G_iload_n rfl rfl ?_
    refine H_callV (ev_at hq S R t p) rfl rfl rfl rfl rfl rfl rfl rfl ?_
    refine G_iadd rfl ?_
    refine G_goto rfl ?_
    exact H_ret rfl rfl ((by rw [h1, h2, b2i_n0.mp h3]; rfl)) (rfl)
  · have h2 := b2i_0.mp (Decidable.of_not_not h2)
    refine G_iconst rfl ?_
    exact H_ret rfl rfl ((by rw [h1, h2]; rfl)) (rfl)
set_option maxRecDepth 100000 in
theorem xl_diff (hT : NT (S 2) T) (hπ : Pot (S 2) π) (x y w : Int32) : ∃ S1, EvM kX_difference [.ref 0, .int x, .int y, .int w] (mk S R) (some (.int (a_diff (S 2) π x y w))) (mk S1 R) ∧ LK S S1 := by
  have hq : TQ 1 2 := Or.inl ⟨rfl, rfl⟩
  unfold a_diff
  cases b1 : isPt x with
  | false =>
    refine ⟨S, ?_, LK.rf⟩
    have c1 := ev_isPoint S R x
    rw [b1] at c1
    refine EvM_mk [some (.ref 0), some (.int x), some (.int y), some (.int w)] rfl rfl rfl rfl rfl (trivial) ?_
    refine G_iload_n rfl rfl ?_
    refine H_callS (c1) rfl rfl rfl rfl rfl ?_
    refine G_if_eq rfl (fun h => ?_) (fun h => ?_)
    · skip
      refine G_iconst rfl ?_
      exact H_ret rfl rfl (rfl) (rfl)
    · exact absurd rfl h
  | true =>
    cases b2 : isPt y with
    | false =>
      refine ⟨S, ?_, LK.rf⟩
      have c1 := ev_isPoint S R x
      rw [b1] at c1
      have c2 := ev_isPoint S R y
      rw [b2] at c2
      refine EvM_mk [some (.ref 0), some (.int x), some (.int y), some (.int w)] rfl rfl rfl rfl rfl (trivial) ?_
      refine G_iload_n rfl rfl ?_
      refine H_callS (c1) rfl rfl rfl rfl rfl ?_
      refine G_if_eq rfl (fun h => ?_) (fun h => ?_)
      · exact absurd h (by decide)
      refine G_iload_n rfl rfl ?_
      refine H_callS (c2) rfl rfl rfl rfl rfl ?_
      refine G_if_eq rfl (fun h => ?_) (fun h => ?_)
      · skip
        refine G_iconst rfl ?_
        exact H_ret rfl rfl (rfl) (rfl)
      · exact absurd rfl h
    | true =>
      have c1 := ev_isPoint S R x
      rw [b1] at c1
      have c2 := ev_isPoint S R y
      rw [b2] at c2
      obtain ⟨a, ha, rfl⟩ := isPt_ix b1
      obtain ⟨b, hb, rfl⟩ := isPt_ix b2
      rw [nI_clamp (show a < 2 ^ 31 by omega), nI_clamp (show b < 2 ^ 31 by omega)]
      by_cases w1 : w < 0
      · refine ⟨S, ?_, LK.rf⟩
        refine EvM_mk [some (.ref 0), some (.int (nI a)), some (.int (nI b)), some (.int w)] rfl rfl rfl rfl rfl (trivial) ?_
        refine G_iload_n rfl rfl ?_
        refine H_callS (c1) rfl rfl rfl rfl rfl ?_
        refine G_if_eq rfl (fun h => ?_) (fun h => ?_)
        · exact absurd h (by decide)
        refine G_iload_n rfl rfl ?_
        refine H_callS (c2) rfl rfl rfl rfl rfl ?_
        refine G_if_eq rfl (fun h => ?_) (fun h => ?_)
        · exact absurd h (by decide)
        refine G_iload_n rfl rfl ?_
        refine G_if_lt rfl (fun h => ?_) (fun h => ?_)
        · skip
          refine G_iconst rfl ?_
          exact H_ret rfl rfl ((by simp [w1])) (rfl)
        · exact absurd w1 h
      by_cases w2 : 1 < w
      · refine ⟨S, ?_, LK.rf⟩
        refine EvM_mk [some (.ref 0), some (.int (nI a)), some (.int (nI b)), some (.int w)] rfl rfl rfl rfl rfl (trivial) ?_
        refine G_iload_n rfl rfl ?_
        refine H_callS (c1) rfl rfl rfl rfl rfl ?_
        refine G_if_eq rfl (fun h => ?_) (fun h => ?_)
        · exact absurd h (by decide)
        refine G_iload_n rfl rfl ?_
        refine H_callS (c2) rfl rfl rfl rfl rfl ?_
        refine G_if_eq rfl (fun h => ?_) (fun h => ?_)
        · exact absurd h (by decide)
        refine G_iload_n rfl rfl ?_
        refine G_if_lt rfl (fun h => ?_) (fun h => ?_)
        · exact absurd h w1
        refine G_iload_n rfl rfl ?_
        refine G_iconst rfl ?_
        refine G_icmp_le rfl (fun h => ?_) (fun h => ?_)
        · exact absurd w2 (Int32.not_lt.mpr h)
        · skip
          refine G_iconst rfl ?_
          exact H_ret rfl rfl ((by simp [w2])) (rfl)
      rw [decide_eq_true w1, decide_eq_true w2]
      have front : ∀ (S1 : Nat → Nat → Int32) (r : Int32), Gm kX_difference 25 [some (.ref 0), some (.int (nI a)), some (.int (nI b)), some (.int w)] [] (S, PF R, 24) (some (.int r)) (S1, PF R, 24) → EvM kX_difference [.ref 0, .int (nI a), .int (nI b), .int w] (mk S R) (some (.int r)) (mk S1 R) := fun S1 r g => by
        refine EvM_mk [some (.ref 0), some (.int (nI a)), some (.int (nI b)), some (.int w)] rfl rfl rfl rfl rfl (trivial) ?_
        refine G_iload_n rfl rfl ?_
        refine H_callS (c1) rfl rfl rfl rfl rfl ?_
        refine G_if_eq rfl (fun h => ?_) (fun h => ?_)
        · exact absurd h (by decide)
        refine G_iload_n rfl rfl ?_
        refine H_callS (c2) rfl rfl rfl rfl rfl ?_
        refine G_if_eq rfl (fun h => ?_) (fun h => ?_)
        · exact absurd h (by decide)
        refine G_iload_n rfl rfl ?_
        refine G_if_lt rfl (fun h => ?_) (fun h => ?_)
        · exact absurd h w1
        refine G_iload_n rfl rfl ?_
        refine G_iconst rfl ?_
        refine G_icmp_le rfl (fun h => ?_) (fun h => ?_)
        · exact g
        · exact absurd (Int32.not_lt.mp w2) h
      by_cases w0 : w = 0
      · obtain ⟨S1, c, evm, fr, hc, hd⟩ := ev_meets hq R (a := a) (c := b) (by omega) (by omega) S hT
        have ec := cB_eq hc
        refine ⟨S1, front S1 _ ?_, LK_w fr⟩
        refine G_iload_n rfl rfl ?_
        refine G_if_ne rfl (fun h => ?_) (fun h => ?_)
        · exact absurd w0 h
        refine G_aload_n rfl rfl ?_
        refine H_getR rfl rfl rfl rfl rfl rfl ?_
        refine G_aload_n rfl rfl ?_
        refine H_getR rfl rfl rfl rfl rfl rfl ?_
        refine G_iload_n rfl rfl ?_
        refine G_iload_n rfl rfl ?_
        refine H_callV (evm) rfl rfl rfl rfl rfl rfl rfl rfl ?_
        refine G_if_eq rfl (fun h2 => ?_) (fun h2 => ?_)
        · skip
          refine G_bipush rfl ?_
          exact H_ret rfl rfl ((by rw [fV, ← ec, b2i_0.mp h2]; rfl)) (rfl)
        · have h2 := b2i_n0.mp h2
          refine G_ldc rfl ?_
          refine G_aload_n rfl rfl ?_
          refine H_getR rfl rfl rfl rfl rfl rfl ?_
          refine G_iload_n rfl rfl ?_
          refine H_callV (ev_placeOf S1 R (a := b) (by omega)) rfl rfl rfl rfl rfl rfl rfl rfl ?_
          refine G_iadd rfl ?_
          refine G_goto rfl ?_
          exact H_ret rfl rfl ((by rw [fV, ← ec, h2, ← hd π hπ h2]; rfl)) (rfl)
      · obtain ⟨f, d, evj, hJ⟩ := ev_join S R hT
        have et := ev_tell (u2 (u2 S 14 f) 15 d) R (a := a) (b := b) (by omega) (by omega)
        rw [u2_ne (show 14 ≠ 15 by decide), u2_same, u2_same, js_f hJ hπ (by omega) (by omega)] at et
        refine ⟨u2 (u2 S 14 f) 15 d, front _ _ ?_, LK_j⟩
        refine G_iload_n rfl rfl ?_
        refine G_if_ne rfl (fun h => ?_) (fun h => ?_)
        · skip
          refine G_aload_n rfl rfl ?_
          refine H_getR rfl rfl rfl rfl rfl rfl ?_
          refine G_aload_n rfl rfl ?_
          refine H_getR rfl rfl rfl rfl rfl rfl ?_
          refine H_callU (evj) rfl rfl rfl rfl rfl rfl rfl rfl ?_
          refine G_aload_n rfl rfl ?_
          refine G_iload_n rfl rfl ?_
          refine G_iload_n rfl rfl ?_
          refine H_callV (et) rfl rfl rfl rfl rfl rfl rfl rfl ?_
          exact H_ret rfl rfl (rfl) (rfl)
        · exact absurd (Decidable.of_not_not h) w0
set_option maxRecDepth 100000 in
theorem xl_follows (hT : NT (S 2) T) (hπ : Pot (S 2) π) (t p : Int32) : ∃ S1, EvM kX_follows [.ref 0, .int t, .int p] (mk S R) (some (.int (a_follows (S 2) π t p))) (mk S1 R) ∧ LK S S1 := by
  have hq : TQ 1 2 := Or.inl ⟨rfl, rfl⟩
  have hT8 := hT.2.1
  have c1 := ev_isTape hq S R t
  have c2 := ev_isPoint S R p
  unfold a_follows
  cases b1 : tIs (S 2) t with
  | false =>
    refine ⟨S, ?_, LK.rf⟩
    rw [b1] at c1
    refine EvM_mk [some (.ref 0), some (.int t), some (.int p)] rfl rfl rfl rfl rfl (trivial) ?_
    refine G_aload_n rfl rfl ?_
    refine H_getR rfl rfl rfl rfl rfl rfl ?_
    refine G_iload_n rfl rfl ?_
    refine H_callV (c1) rfl rfl rfl rfl rfl rfl rfl rfl ?_
    refine G_if_eq rfl (fun h => ?_) (fun h => ?_)
    · skip
      refine G_iconst rfl ?_
      exact H_ret rfl rfl (rfl) (rfl)
    · exact absurd rfl h
  | true =>
    rw [b1] at c1
    cases b2 : isPt p with
    | false =>
      rw [b2] at c2
      refine ⟨S, ?_, LK.rf⟩
      refine EvM_mk [some (.ref 0), some (.int t), some (.int p)] rfl rfl rfl rfl rfl (trivial) ?_
      refine G_aload_n rfl rfl ?_
      refine H_getR rfl rfl rfl rfl rfl rfl ?_
      refine G_iload_n rfl rfl ?_
      refine H_callV (c1) rfl rfl rfl rfl rfl rfl rfl rfl ?_
      refine G_if_eq rfl (fun h => ?_) (fun h => ?_)
      · exact absurd h (by decide)
      refine G_iload_n rfl rfl ?_
      refine H_callS (c2) rfl rfl rfl rfl rfl ?_
      refine G_if_ne rfl (fun h => ?_) (fun h => ?_)
      · exact absurd rfl h
      · skip
        refine G_iconst rfl ?_
        exact H_ret rfl rfl (rfl) (rfl)
    | true =>
      rw [b2] at c2
      obtain ⟨a, ha, rfl⟩ := tIs_ix hT.1 hT8 b1
      obtain ⟨b, hb, rfl⟩ := isPt_ix b2
      rw [nI_clamp (show a < 2 ^ 31 by omega), nI_clamp (show b < 2 ^ 31 by omega)]
      have e12 : (12 : Int32) + nI a = nI (12 + a) := nI_add 12 a
      obtain ⟨f, d, evj, hJ⟩ := ev_join S R hT
      have et := ev_tell (u2 (u2 S 14 f) 15 d) R (a := 12 + a) (b := b) (by omega) (by omega)
      rw [u2_ne (show 14 ≠ 15 by decide), u2_same, u2_same, js_f hJ hπ (by omega) (by omega), ← e12] at et
      refine ⟨u2 (u2 S 14 f) 15 d, ?_, LK_j⟩
      refine EvM_mk [some (.ref 0), some (.int (nI a)), some (.int (nI b))] rfl rfl rfl rfl rfl (trivial) ?_
      refine G_aload_n rfl rfl ?_
      refine H_getR rfl rfl rfl rfl rfl rfl ?_
      refine G_iload_n rfl rfl ?_
      refine H_callV (c1) rfl rfl rfl rfl rfl rfl rfl rfl ?_
      refine G_if_eq rfl (fun h => ?_) (fun h => ?_)
      · exact absurd h (by decide)
      refine G_iload_n rfl rfl ?_
      refine H_callS (c2) rfl rfl rfl rfl rfl ?_
      refine G_if_ne rfl (fun h => ?_) (fun h => ?_)
      · skip
        refine G_aload_n rfl rfl ?_
        refine H_getR rfl rfl rfl rfl rfl rfl ?_
        refine G_aload_n rfl rfl ?_
        refine H_getR rfl rfl rfl rfl rfl rfl ?_
        refine H_callU (evj) rfl rfl rfl rfl rfl rfl rfl rfl ?_
        refine G_aload_n rfl rfl ?_
        refine G_bipush rfl ?_
        refine G_iload_n rfl rfl ?_
        refine G_iadd rfl ?_
        refine G_iload_n rfl rfl ?_
        refine H_callV (et) rfl rfl rfl rfl rfl rfl rfl rfl ?_
        exact H_ret rfl rfl (rfl) (rfl)
      · exact absurd (by decide) h
set_option maxRecDepth 100000 in
theorem xl_zeros (hT : NT (S 2) T) (hπ : Pot (S 2) π) (t o : Int32) : ∃ S1, EvM kX_zeros [.ref 0, .int t, .int o] (mk S R) (some (.int (a_zeros (S 2) π t o))) (mk S1 R) ∧ LK S S1 := by
  have hq : TQ 1 2 := Or.inl ⟨rfl, rfl⟩
  have hT8 := hT.2.1
  have c1 := ev_isTape hq S R t
  have c2 := ev_isTape hq S R o
  unfold a_zeros
  cases b1 : tIs (S 2) t with
  | false =>
    refine ⟨S, ?_, LK.rf⟩
    rw [b1] at c1
    refine EvM_mk [some (.ref 0), some (.int t), some (.int o)] rfl rfl rfl rfl rfl (trivial) ?_
    refine G_aload_n rfl rfl ?_
    refine H_getR rfl rfl rfl rfl rfl rfl ?_
    refine G_iload_n rfl rfl ?_
    refine H_callV (c1) rfl rfl rfl rfl rfl rfl rfl rfl ?_
    refine G_if_eq rfl (fun h => ?_) (fun h => ?_)
    · skip
      refine G_iconst rfl ?_
      exact H_ret rfl rfl (rfl) (rfl)
    · exact absurd rfl h
  | true =>
    rw [b1] at c1
    cases b2 : tIs (S 2) o with
    | false =>
      rw [b2] at c2
      refine ⟨S, ?_, LK.rf⟩
      refine EvM_mk [some (.ref 0), some (.int t), some (.int o)] rfl rfl rfl rfl rfl (trivial) ?_
      refine G_aload_n rfl rfl ?_
      refine H_getR rfl rfl rfl rfl rfl rfl ?_
      refine G_iload_n rfl rfl ?_
      refine H_callV (c1) rfl rfl rfl rfl rfl rfl rfl rfl ?_
      refine G_if_eq rfl (fun h => ?_) (fun h => ?_)
      · exact absurd h (by decide)
      refine G_aload_n rfl rfl ?_
      refine H_getR rfl rfl rfl rfl rfl rfl ?_
      refine G_iload_n rfl rfl ?_
      refine H_callV (c2) rfl rfl rfl rfl rfl rfl rfl rfl ?_
      refine G_if_ne rfl (fun h => ?_) (fun h => ?_)
      · exact absurd rfl h
      · skip
        refine G_iconst rfl ?_
        exact H_ret rfl rfl (rfl) (rfl)
    | true =>
      rw [b2] at c2
      obtain ⟨a, ha, rfl⟩ := tIs_ix hT.1 hT8 b1
      obtain ⟨b, hb, rfl⟩ := tIs_ix hT.1 hT8 b2
      rw [nI_clamp (show a < 2 ^ 31 by omega), nI_clamp (show b < 2 ^ 31 by omega)]
      have e12 : (12 : Int32) + nI a = nI (12 + a) := nI_add 12 a
      have e13 : (12 : Int32) + nI b = nI (12 + b) := nI_add 12 b
      obtain ⟨f, d, evj, hJ⟩ := ev_join S R hT
      have et := ev_tell (u2 (u2 S 14 f) 15 d) R (a := 12 + a) (b := 12 + b) (by omega) (by omega)
      rw [u2_ne (show 14 ≠ 15 by decide), u2_same, u2_same, js_f hJ hπ (by omega) (by omega), ← e12, ← e13] at et
      refine ⟨u2 (u2 S 14 f) 15 d, ?_, LK_j⟩
      refine EvM_mk [some (.ref 0), some (.int (nI a)), some (.int (nI b))] rfl rfl rfl rfl rfl (trivial) ?_
      refine G_aload_n rfl rfl ?_
      refine H_getR rfl rfl rfl rfl rfl rfl ?_
      refine G_iload_n rfl rfl ?_
      refine H_callV (c1) rfl rfl rfl rfl rfl rfl rfl rfl ?_
      refine G_if_eq rfl (fun h => ?_) (fun h => ?_)
      · exact absurd h (by decide)
      refine G_aload_n rfl rfl ?_
      refine H_getR rfl rfl rfl rfl rfl rfl ?_
      refine G_iload_n rfl rfl ?_
      refine H_callV (c2) rfl rfl rfl rfl rfl rfl rfl rfl ?_
      refine G_if_ne rfl (fun h => ?_) (fun h => ?_)
      · skip
        refine G_aload_n rfl rfl ?_
        refine H_getR rfl rfl rfl rfl rfl rfl ?_
        refine G_aload_n rfl rfl ?_
        refine H_getR rfl rfl rfl rfl rfl rfl ?_
        refine H_callU (evj) rfl rfl rfl rfl rfl rfl rfl rfl ?_
        refine G_aload_n rfl rfl ?_
        refine G_bipush rfl ?_
        refine G_iload_n rfl rfl ?_
        refine G_iadd rfl ?_
        refine G_bipush rfl ?_
        refine G_iload_n rfl rfl ?_
        refine G_iadd rfl ?_
        refine H_callV (et) rfl rfl rfl rfl rfl rfl rfl rfl ?_
        exact H_ret rfl rfl (rfl) (rfl)
      · exact absurd (by decide) h
set_option maxRecDepth 100000 in
theorem xl_whyNot (hT : NT (S 2) T) (hπ : Pot (S 2) π) (t p x : Int32) : ∃ S1, EvM kX_whyNot [.ref 0, .int t, .int p, .int x] (mk S R) (some (.int (a_whyNot (S 2) π t p x))) (mk S1 R) ∧ LK S S1 := by
  have hq : TQ 1 2 := Or.inl ⟨rfl, rfl⟩
  have hT8 := hT.2.1
  have c1 := ev_isTape hq S R t
  have c2 := ev_isPoint S R p
  have c3 := ev_isNumber S R x
  unfold a_whyNot
  cases b1 : tIs (S 2) t with
  | false =>
    refine ⟨S, ?_, LK.rf⟩
    rw [b1] at c1
    refine EvM_mk [some (.ref 0), some (.int t), some (.int p), some (.int x)] rfl rfl rfl rfl rfl (trivial) ?_
    refine G_aload_n rfl rfl ?_
    refine H_getR rfl rfl rfl rfl rfl rfl ?_
    refine G_iload_n rfl rfl ?_
    refine H_callV (c1) rfl rfl rfl rfl rfl rfl rfl rfl ?_
    refine G_if_eq rfl (fun h => ?_) (fun h => ?_)
    · skip
      refine G_iconst rfl ?_
      exact H_ret rfl rfl (rfl) (rfl)
    · exact absurd rfl h
  | true =>
    rw [b1] at c1
    cases b2 : isPt p with
    | false =>
      rw [b2] at c2
      refine ⟨S, ?_, LK.rf⟩
      refine EvM_mk [some (.ref 0), some (.int t), some (.int p), some (.int x)] rfl rfl rfl rfl rfl (trivial) ?_
      refine G_aload_n rfl rfl ?_
      refine H_getR rfl rfl rfl rfl rfl rfl ?_
      refine G_iload_n rfl rfl ?_
      refine H_callV (c1) rfl rfl rfl rfl rfl rfl rfl rfl ?_
      refine G_if_eq rfl (fun h => ?_) (fun h => ?_)
      · exact absurd h (by decide)
      refine G_iload_n rfl rfl ?_
      refine H_callS (c2) rfl rfl rfl rfl rfl ?_
      refine G_if_eq rfl (fun h => ?_) (fun h => ?_)
      · skip
        refine G_iconst rfl ?_
        exact H_ret rfl rfl (rfl) (rfl)
      · exact absurd rfl h
    | true =>
      rw [b2] at c2
      cases b3 : isNb x with
      | false =>
        rw [b3] at c3
        refine ⟨S, ?_, LK.rf⟩
        refine EvM_mk [some (.ref 0), some (.int t), some (.int p), some (.int x)] rfl rfl rfl rfl rfl (trivial) ?_
        refine G_aload_n rfl rfl ?_
        refine H_getR rfl rfl rfl rfl rfl rfl ?_
        refine G_iload_n rfl rfl ?_
        refine H_callV (c1) rfl rfl rfl rfl rfl rfl rfl rfl ?_
        refine G_if_eq rfl (fun h => ?_) (fun h => ?_)
        · exact absurd h (by decide)
        refine G_iload_n rfl rfl ?_
        refine H_callS (c2) rfl rfl rfl rfl rfl ?_
        refine G_if_eq rfl (fun h => ?_) (fun h => ?_)
        · exact absurd h (by decide)
        refine G_iload_n rfl rfl ?_
        refine H_callS (c3) rfl rfl rfl rfl rfl ?_
        refine G_if_ne rfl (fun h => ?_) (fun h => ?_)
        · exact absurd rfl h
        · skip
          refine G_iconst rfl ?_
          exact H_ret rfl rfl (rfl) (rfl)
      | true =>
        rw [b3] at c3
        obtain ⟨a, ha, rfl⟩ := tIs_ix hT.1 hT8 b1
        obtain ⟨b, hb, rfl⟩ := isPt_ix b2
        rw [nI_clamp (show a < 2 ^ 31 by omega), nI_clamp (show b < 2 ^ 31 by omega)]
        obtain ⟨S1, r, evr, fr, hr⟩ := ev_reasonAgainst S R hT (a := a) (by omega) hb ⟨π, hπ⟩ x
        refine ⟨S1, ?_, LK_g fr⟩
        refine EvM_mk [some (.ref 0), some (.int (nI a)), some (.int (nI b)), some (.int x)] rfl rfl rfl rfl rfl (trivial) ?_
        refine G_aload_n rfl rfl ?_
        refine H_getR rfl rfl rfl rfl rfl rfl ?_
        refine G_iload_n rfl rfl ?_
        refine H_callV (c1) rfl rfl rfl rfl rfl rfl rfl rfl ?_
        refine G_if_eq rfl (fun h => ?_) (fun h => ?_)
        · exact absurd h (by decide)
        refine G_iload_n rfl rfl ?_
        refine H_callS (c2) rfl rfl rfl rfl rfl ?_
        refine G_if_eq rfl (fun h => ?_) (fun h => ?_)
        · exact absurd h (by decide)
        refine G_iload_n rfl rfl ?_
        refine H_callS (c3) rfl rfl rfl rfl rfl ?_
        refine G_if_ne rfl (fun h => ?_) (fun h => ?_)
        · skip
          refine G_aload_n rfl rfl ?_
          refine G_iload_n rfl rfl ?_
          refine G_iload_n rfl rfl ?_
          refine G_iload_n rfl rfl ?_
          refine H_callV (evr) rfl rfl rfl rfl rfl rfl rfl rfl ?_
          exact H_ret rfl rfl ((RS_V hπ hr)) (rfl)
        · exact absurd (by decide) h
set_option maxRecDepth 100000 in
theorem xl_ifRead (hT : NT (S 2) T) (t p : Int32) : ∃ S1, EvM kX_ifRead [.ref 0, .int t, .int p] (mk S R) (some (.int (a_ifRead (S 2) t p))) (mk S1 R) ∧ LK S S1 := by
  have hq : TQ 1 2 := Or.inl ⟨rfl, rfl⟩
  have hT8 := hT.2.1
  have c1 := ev_isTape hq S R t
  have c2 := ev_isPoint S R p
  unfold a_ifRead
  cases b1 : tIs (S 2) t with
  | false =>
    refine ⟨S, ?_, LK.rf⟩
    rw [b1] at c1
    refine EvM_mk [some (.ref 0), some (.int t), some (.int p)] rfl rfl rfl rfl rfl (trivial) ?_
    refine G_aload_n rfl rfl ?_
    refine H_getR rfl rfl rfl rfl rfl rfl ?_
    refine G_iload_n rfl rfl ?_
    refine H_callV (c1) rfl rfl rfl rfl rfl rfl rfl rfl ?_
    refine G_if_eq rfl (fun h => ?_) (fun h => ?_)
    · skip
      refine G_iconst rfl ?_
      exact H_ret rfl rfl (rfl) (rfl)
    · exact absurd rfl h
  | true =>
    rw [b1] at c1
    cases b2 : isPt p with
    | false =>
      rw [b2] at c2
      refine ⟨S, ?_, LK.rf⟩
      refine EvM_mk [some (.ref 0), some (.int t), some (.int p)] rfl rfl rfl rfl rfl (trivial) ?_
      refine G_aload_n rfl rfl ?_
      refine H_getR rfl rfl rfl rfl rfl rfl ?_
      refine G_iload_n rfl rfl ?_
      refine H_callV (c1) rfl rfl rfl rfl rfl rfl rfl rfl ?_
      refine G_if_eq rfl (fun h => ?_) (fun h => ?_)
      · exact absurd h (by decide)
      refine G_iload_n rfl rfl ?_
      refine H_callS (c2) rfl rfl rfl rfl rfl ?_
      refine G_if_ne rfl (fun h => ?_) (fun h => ?_)
      · exact absurd rfl h
      · skip
        refine G_iconst rfl ?_
        exact H_ret rfl rfl (rfl) (rfl)
    | true =>
      rw [b2] at c2
      obtain ⟨a, ha, rfl⟩ := tIs_ix hT.1 hT8 b1
      obtain ⟨b, hb, rfl⟩ := isPt_ix b2
      rw [nI_clamp (show a < 2 ^ 31 by omega), nI_clamp (show b < 2 ^ 31 by omega)]
      obtain ⟨f, d, evj, hJ⟩ := ev_join S R hT
      have et := ev_newPairs (u2 (u2 S 14 f) 15 d) R (t := a) (p := b) (by omega) hb
      rw [u2_ne (show 14 ≠ 15 by decide), u2_same, js_N hJ (by omega) hb] at et
      refine ⟨u2 (u2 S 14 f) 15 d, ?_, LK_j⟩
      refine EvM_mk [some (.ref 0), some (.int (nI a)), some (.int (nI b))] rfl rfl rfl rfl rfl (trivial) ?_
      refine G_aload_n rfl rfl ?_
      refine H_getR rfl rfl rfl rfl rfl rfl ?_
      refine G_iload_n rfl rfl ?_
      refine H_callV (c1) rfl rfl rfl rfl rfl rfl rfl rfl ?_
      refine G_if_eq rfl (fun h => ?_) (fun h => ?_)
      · exact absurd h (by decide)
      refine G_iload_n rfl rfl ?_
      refine H_callS (c2) rfl rfl rfl rfl rfl ?_
      refine G_if_ne rfl (fun h => ?_) (fun h => ?_)
      · skip
        refine G_aload_n rfl rfl ?_
        refine H_getR rfl rfl rfl rfl rfl rfl ?_
        refine G_aload_n rfl rfl ?_
        refine H_getR rfl rfl rfl rfl rfl rfl ?_
        refine H_callU (evj) rfl rfl rfl rfl rfl rfl rfl rfl ?_
        refine G_aload_n rfl rfl ?_
        refine H_getR rfl rfl rfl rfl rfl rfl ?_
        refine G_iload_n rfl rfl ?_
        refine G_iload_n rfl rfl ?_
        refine H_callV (et) rfl rfl rfl rfl rfl rfl rfl rfl ?_
        exact H_ret rfl rfl (rfl) (rfl)
      · exact absurd (by decide) h
set_option maxRecDepth 100000 in
theorem xl_holding (hT : NT (S 2) T) (w : Int32) : ∃ S1, EvM kX_holding [.ref 0, .int w] (mk S R) (some (.int (a_holding (S 2) w))) (mk S1 R) ∧ LK S S1 := by
  have hq : TQ 20 21 := Or.inr ⟨rfl, rfl⟩
  unfold a_holding
  by_cases w1 : w < 0
  · refine ⟨S, ?_, LK.rf⟩
    refine EvM_mk [some (.ref 0), some (.int w), none] rfl rfl rfl rfl rfl (trivial) ?_
    refine G_iload_n rfl rfl ?_
    refine G_if_lt rfl (fun h => ?_) (fun h => ?_)
    · skip
      refine G_iconst rfl ?_
      exact H_ret rfl rfl ((by simp [w1])) (rfl)
    · exact absurd w1 h
  by_cases w2 : 1 < w
  · refine ⟨S, ?_, LK.rf⟩
    refine EvM_mk [some (.ref 0), some (.int w), none] rfl rfl rfl rfl rfl (trivial) ?_
    refine G_iload_n rfl rfl ?_
    refine G_if_lt rfl (fun h => ?_) (fun h => ?_)
    · exact absurd h w1
    refine G_iload_n rfl rfl ?_
    refine G_iconst rfl ?_
    refine G_icmp_le rfl (fun h => ?_) (fun h => ?_)
    · exact absurd w2 (Int32.not_lt.mpr h)
    · skip
      refine G_iconst rfl ?_
      exact H_ret rfl rfl ((by simp [w2])) (rfl)
  rw [decide_eq_true w1, decide_eq_true w2]
  have evc := ev_copyFrom hq S R (o := 2) (by decide) rfl rfl
  generalize hS0 : u2 S 21 (cpy (S 2) (S 21) 101) = S0 at evc
  have s21 : ∀ j, j < 101 → S0 21 j = S 2 j := fun j hj => by rw [← hS0, u2_same]; exact if_pos hj
  have hT0 : NT (S0 21) T := ⟨by rw [s21 96 (by decide)]; exact hT.1, hT.2.1, fun j h1 h2 => by rw [s21 j (by omega)]; exact hT.2.2 j h1 h2⟩
  have hbrs : brs (S0 21) = brs (S 2) := cnt_congr (fun j hj => by
    have e1 : ∀ k, k < 96 → S0 21 k = S 2 k := fun k hk => s21 k (by omega)
    unfold br
    have e2 : hs (S0 21) j = hs (S 2) j := by rw [hs, hs, e1 j hj]
    have e3 : Cn (upd (S0 21) j NONE) (j % 12) (12 + j / 12) ↔ Cn (upd (S 2) j NONE) (j % 12) (12 + j / 12) := Cn.congr (fun k hk => by unfold upd; by_cases q : k = j <;> simp [q, e1 k hk])
    rw [e2]
    congr 2
    exact decide_eq_decide.mpr e3)
  have lk0 : LK S S0 := by rw [← hS0]; exact LK_u (by decide)
  have front : ∀ (S1 : Nat → Nat → Int32) (r : Int32), Gm kX_holding 25 [some (.ref 0), some (.int w), none] [] (S0, PF R, 24) (some (.int r)) (S1, PF R, 24) → EvM kX_holding [.ref 0, .int w] (mk S R) (some (.int r)) (mk S1 R) := fun S1 r g => by
    refine EvM_mk [some (.ref 0), some (.int w), none] rfl rfl rfl rfl rfl (trivial) ?_
    refine G_iload_n rfl rfl ?_
    refine G_if_lt rfl (fun h => ?_) (fun h => ?_)
    · exact absurd h w1
    refine G_iload_n rfl rfl ?_
    refine G_iconst rfl ?_
    refine G_icmp_le rfl (fun h => ?_) (fun h => ?_)
    · skip
      refine G_aload_n rfl rfl ?_
      refine H_getR rfl rfl rfl rfl rfl rfl ?_
      refine G_aload_n rfl rfl ?_
      refine H_getR rfl rfl rfl rfl rfl rfl ?_
      refine H_getR rfl rfl rfl rfl rfl rfl ?_
      refine H_callU (evc) rfl rfl rfl rfl rfl rfl rfl rfl ?_
      exact g
    · exact absurd (Int32.not_lt.mp w2) h
  by_cases w0 : w = 1
  · obtain ⟨S1, g1, ev1, t1, t2, t3⟩ := ev_takeEndsAway R S0 hT0
    obtain ⟨S2, ev2, fr2⟩ := ev_holdingOfRest R S1 t2
    refine ⟨S2, front S2 _ ?_, lk0.tr (LK.tr (fun i hi => t1 i (fun e => hi (by rw [e]; decide))) (LK_w fr2))⟩
    refine G_iload_n rfl rfl ?_
    refine G_iconst rfl ?_
    refine G_icmp_ne rfl (fun h => ?_) (fun h => ?_)
    · exact absurd w0 h
    refine G_aload_n rfl rfl ?_
    refine H_callV (ev1) rfl rfl rfl rfl rfl rfl rfl rfl ?_
    refine G_goto rfl ?_
    refine H_ist_3_2 rfl rfl ?_
    refine G_iload_n rfl rfl ?_
    refine G_aload_n rfl rfl ?_
    refine H_callV (ev2) rfl rfl rfl rfl rfl rfl rfl rfl ?_
    refine G_iadd rfl ?_
    exact H_ret rfl rfl ((by rw [nI_add, ← hbrs, t3]; rfl)) (rfl)
  · obtain ⟨S2, ev2, fr2⟩ := ev_holdingOfRest R S0 hT0
    refine ⟨S2, front S2 _ ?_, lk0.tr (LK_w fr2)⟩
    refine G_iload_n rfl rfl ?_
    refine G_iconst rfl ?_
    refine G_icmp_ne rfl (fun h => ?_) (fun h => ?_)
    · skip
      refine G_iconst rfl ?_
      refine H_ist_3_2 rfl rfl ?_
      refine G_iload_n rfl rfl ?_
      refine G_aload_n rfl rfl ?_
      refine H_callV (ev2) rfl rfl rfl rfl rfl rfl rfl rfl ?_
      refine G_iadd rfl ?_
      exact H_ret rfl rfl ((by rw [hbrs]; exact Int32.zero_add _)) (rfl)
    · exact absurd (Decidable.of_not_not h) w0
end XL
