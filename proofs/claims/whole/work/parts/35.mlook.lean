/-! the document's own reckoning: looks -/
theorem sFr.rf {S : Nat → Nat → Int32} : sFr S S := fun _ _ _ => rfl
section ML
variable (S : Nat → Nat → Int32) (R : Nat → Nat) {row : Nat → Int32} {T : Nat} {π : Nat → Int32}
set_option maxRecDepth 100000 in
theorem ev_mfarOf (hC : CS row T (S 25)) (hπ : Pot row π) {a x : Nat} (ha : a < 20) (hx : x < 20) : ∃ S1, EvM kM_farOf [.ref 24, .int (nI a), .int (nI x)] (mk S R) (some (.int (fV row π a x))) (mk S1 R) ∧ sFr S S1 := by
  obtain ⟨S1, c1, fr, ms⟩ := ev_mspreads S R hC ha
  refine ⟨S1, ?_, fr⟩
  have hm := ms.1 x hx
  unfold fV
  cases hc : cB row a x with
  | true =>
    rw [hc] at hm
    rw [cond_true, ← ((ms.2 x hx hc).1 π hπ)]
    refine EvM_mk [some (.ref 24), some (.int (nI a)), some (.int (nI x))] rfl rfl rfl rfl rfl (trivial) ?_
    refine G_aload_n rfl rfl ?_
    refine G_iload_n rfl rfl ?_
    refine H_callU (c1) rfl rfl rfl rfl rfl rfl rfl rfl ?_
    refine G_aload_n rfl rfl ?_
    refine H_getR rfl rfl rfl rfl rfl rfl ?_
    refine G_iload_n rfl rfl ?_
    refine H_bald rfl (rfl) (rfl) (hx) (rfl) ?_
    refine G_if_eq rfl (fun h => ?_) (fun h => ?_)
    · exact absurd h (by rw [hm]; decide)
    refine G_ldc rfl ?_
    refine G_aload_n rfl rfl ?_
    refine H_getR rfl rfl rfl rfl rfl rfl ?_
    refine G_iload_n rfl rfl ?_
    refine H_iald rfl (rfl) (rfl) (hx) (rfl) ?_
    refine G_iadd rfl ?_
    refine G_goto rfl ?_
    exact H_ret rfl rfl (rfl) (rfl)
  | false =>
    rw [hc] at hm
    rw [cond_false]
    refine EvM_mk [some (.ref 24), some (.int (nI a)), some (.int (nI x))] rfl rfl rfl rfl rfl (trivial) ?_
    refine G_aload_n rfl rfl ?_
    refine G_iload_n rfl rfl ?_
    refine H_callU (c1) rfl rfl rfl rfl rfl rfl rfl rfl ?_
    refine G_aload_n rfl rfl ?_
    refine H_getR rfl rfl rfl rfl rfl rfl ?_
    refine G_iload_n rfl rfl ?_
    refine H_bald rfl (rfl) (rfl) (hx) (rfl) ?_
    refine G_if_eq rfl (fun h => ?_) (fun h => ?_)
    · skip
      refine G_bipush rfl ?_
      exact H_ret rfl rfl (rfl) (rfl)
    · exact absurd hm h
set_option maxRecDepth 100000 in
theorem ml_diff (hC : CS row T (S 25)) (hπ : Pot row π) (x y w : Int32) : ∃ S1, EvM kM_difference [.ref 24, .int x, .int y, .int w] (mk S R) (some (.int (a_diff row π x y w))) (mk S1 R) ∧ sFr S S1 := by
  have c1 := ev_misPoint S R x
  have c2 := ev_misPoint S R y
  have c3 := ev_min S R w 0 1
  rw [show a_diff row π x y w = bif isPt x && (isPt y && mIn w 0 1) then fV row π x.toNatClampNeg y.toNatClampNeg else -1 from rfl]
  cases hb : isPt x && (isPt y && mIn w 0 1) with
  | false =>
    refine ⟨S, ?_, .rf⟩
    refine EvM_mk [some (.ref 24), some (.int x), some (.int y), some (.int w)] rfl rfl rfl rfl rfl (trivial) ?_
    refine G_iload_n rfl rfl ?_
    refine H_callS (c1) rfl rfl rfl rfl rfl ?_
    refine G_if_eq rfl (fun h1 => ?_) (fun h1 => ?_)
    · skip
      refine G_iconst rfl ?_
      exact H_ret rfl rfl (rfl) (rfl)
    refine G_iload_n rfl rfl ?_
    refine H_callS (c2) rfl rfl rfl rfl rfl ?_
    refine G_if_eq rfl (fun h2 => ?_) (fun h2 => ?_)
    · skip
      refine G_iconst rfl ?_
      exact H_ret rfl rfl (rfl) (rfl)
    refine G_iload_n rfl rfl ?_
    refine G_iconst rfl ?_
    refine G_iconst rfl ?_
    refine H_callS (c3) rfl rfl rfl rfl rfl ?_
    refine G_if_eq rfl (fun h3 => ?_) (fun h3 => ?_)
    · skip
      refine G_iconst rfl ?_
      exact H_ret rfl rfl (rfl) (rfl)
    · rw [b2i_n0.mp h1, b2i_n0.mp h2, b2i_n0.mp h3] at hb; cases hb
  | true =>
    rw [Bool.and_eq_true, Bool.and_eq_true] at hb
    obtain ⟨b1, b2, b3⟩ := hb
    rw [b1] at c1
    rw [b2] at c2
    rw [b3] at c3
    obtain ⟨i, hi, rfl⟩ := isPt_ix b1
    obtain ⟨j, hj, rfl⟩ := isPt_ix b2
    rw [nI_clamp (show i < 2 ^ 31 by omega), nI_clamp (show j < 2 ^ 31 by omega), cond_true]
    obtain ⟨S1, c4, fr⟩ := ev_mfarOf S R hC hπ (a := i) (x := j) (by omega) (by omega)
    refine ⟨S1, ?_, fr⟩
    refine EvM_mk [some (.ref 24), some (.int (nI i)), some (.int (nI j)), some (.int w)] rfl rfl rfl rfl rfl (trivial) ?_
    refine G_iload_n rfl rfl ?_
    refine H_callS (c1) rfl rfl rfl rfl rfl ?_
    refine G_if_eq rfl (fun h1 => ?_) (fun h1 => ?_)
    · exact absurd h1 (by decide)
    refine G_iload_n rfl rfl ?_
    refine H_callS (c2) rfl rfl rfl rfl rfl ?_
    refine G_if_eq rfl (fun h2 => ?_) (fun h2 => ?_)
    · exact absurd h2 (by decide)
    refine G_iload_n rfl rfl ?_
    refine G_iconst rfl ?_
    refine G_iconst rfl ?_
    refine H_callS (c3) rfl rfl rfl rfl rfl ?_
    refine G_if_eq rfl (fun h3 => ?_) (fun h3 => ?_)
    · exact absurd h3 (by decide)
    refine G_aload_n rfl rfl ?_
    refine G_iload_n rfl rfl ?_
    refine G_iload_n rfl rfl ?_
    refine H_callV (c4) rfl rfl rfl rfl rfl rfl rfl rfl ?_
    refine G_goto rfl ?_
    exact H_ret rfl rfl (rfl) (rfl)
set_option maxRecDepth 100000 in
theorem ml_follows (hC : CS row T (S 25)) (hπ : Pot row π) (t p : Int32) : ∃ S1, EvM kM_follows [.ref 24, .int t, .int p] (mk S R) (some (.int (a_follows row π t p))) (mk S1 R) ∧ sFr S S1 := by
  have c1 := ev_misTape S R hC t
  have c2 := ev_misPoint S R p
  unfold a_follows
  cases hb : tIs row t && isPt p with
  | false =>
    refine ⟨S, ?_, .rf⟩
    refine EvM_mk [some (.ref 24), some (.int t), some (.int p)] rfl rfl rfl rfl rfl (trivial) ?_
    refine G_aload_n rfl rfl ?_
    refine G_iload_n rfl rfl ?_
    refine H_callV (c1) rfl rfl rfl rfl rfl rfl rfl rfl ?_
    refine G_if_eq rfl (fun h1 => ?_) (fun h1 => ?_)
    · skip
      refine G_iconst rfl ?_
      exact H_ret rfl rfl (rfl) (rfl)
    refine G_iload_n rfl rfl ?_
    refine H_callS (c2) rfl rfl rfl rfl rfl ?_
    refine G_if_eq rfl (fun h2 => ?_) (fun h2 => ?_)
    · skip
      refine G_iconst rfl ?_
      exact H_ret rfl rfl (rfl) (rfl)
    · rw [b2i_n0.mp h1, b2i_n0.mp h2] at hb; cases hb
  | true =>
    rw [Bool.and_eq_true] at hb
    obtain ⟨b1, b2⟩ := hb
    rw [b1] at c1
    rw [b2] at c2
    have hT8 := hC.1.2.1
    obtain ⟨i, hi, rfl⟩ := tIs_ix hC.1.1 hT8 b1
    obtain ⟨j, hj, rfl⟩ := isPt_ix b2
    rw [nI_clamp (show i < 2 ^ 31 by omega), nI_clamp (show j < 2 ^ 31 by omega), cond_true]
    obtain ⟨S1, c4, fr⟩ := ev_mfarOf S R hC hπ (a := 12 + i) (x := j) (by omega) (by omega)
    rw [← nI_add] at c4
    refine ⟨S1, ?_, fr⟩
    refine EvM_mk [some (.ref 24), some (.int (nI i)), some (.int (nI j))] rfl rfl rfl rfl rfl (trivial) ?_
    refine G_aload_n rfl rfl ?_
    refine G_iload_n rfl rfl ?_
    refine H_callV (c1) rfl rfl rfl rfl rfl rfl rfl rfl ?_
    refine G_if_eq rfl (fun h1 => ?_) (fun h1 => ?_)
    · exact absurd h1 (by decide)
    refine G_iload_n rfl rfl ?_
    refine H_callS (c2) rfl rfl rfl rfl rfl ?_
    refine G_if_eq rfl (fun h2 => ?_) (fun h2 => ?_)
    · exact absurd h2 (by decide)
    refine G_aload_n rfl rfl ?_
    refine G_bipush rfl ?_
    refine G_iload_n rfl rfl ?_
    refine G_iadd rfl ?_
    refine G_iload_n rfl rfl ?_
    refine H_callV (c4) rfl rfl rfl rfl rfl rfl rfl rfl ?_
    refine G_goto rfl ?_
    exact H_ret rfl rfl (rfl) (rfl)
set_option maxRecDepth 100000 in
theorem ml_zeros (hC : CS row T (S 25)) (hπ : Pot row π) (t o : Int32) : ∃ S1, EvM kM_zeros [.ref 24, .int t, .int o] (mk S R) (some (.int (a_zeros row π t o))) (mk S1 R) ∧ sFr S S1 := by
  have c1 := ev_misTape S R hC t
  have c2 := ev_misTape S R hC o
  unfold a_zeros
  cases hb : tIs row t && tIs row o with
  | false =>
    refine ⟨S, ?_, .rf⟩
    refine EvM_mk [some (.ref 24), some (.int t), some (.int o)] rfl rfl rfl rfl rfl (trivial) ?_
    refine G_aload_n rfl rfl ?_
    refine G_iload_n rfl rfl ?_
    refine H_callV (c1) rfl rfl rfl rfl rfl rfl rfl rfl ?_
    refine G_if_eq rfl (fun h1 => ?_) (fun h1 => ?_)
    · skip
      refine G_iconst rfl ?_
      exact H_ret rfl rfl (rfl) (rfl)
    refine G_aload_n rfl rfl ?_
    refine G_iload_n rfl rfl ?_
    refine H_callV (c2) rfl rfl rfl rfl rfl rfl rfl rfl ?_
    refine G_if_eq rfl (fun h2 => ?_) (fun h2 => ?_)
    · skip
      refine G_iconst rfl ?_
      exact H_ret rfl rfl (rfl) (rfl)
    · rw [b2i_n0.mp h1, b2i_n0.mp h2] at hb; cases hb
  | true =>
    rw [Bool.and_eq_true] at hb
    obtain ⟨b1, b2⟩ := hb
    rw [b1] at c1
    rw [b2] at c2
    have hT8 := hC.1.2.1
    obtain ⟨i, hi, rfl⟩ := tIs_ix hC.1.1 hT8 b1
    obtain ⟨j, hj, rfl⟩ := tIs_ix hC.1.1 hT8 b2
    rw [nI_clamp (show i < 2 ^ 31 by omega), nI_clamp (show j < 2 ^ 31 by omega), cond_true]
    obtain ⟨S1, c4, fr⟩ := ev_mfarOf S R hC hπ (a := 12 + i) (x := 12 + j) (by omega) (by omega)
    rw [← nI_add, ← nI_add] at c4
    refine ⟨S1, ?_, fr⟩
    refine EvM_mk [some (.ref 24), some (.int (nI i)), some (.int (nI j))] rfl rfl rfl rfl rfl (trivial) ?_
    refine G_aload_n rfl rfl ?_
    refine G_iload_n rfl rfl ?_
    refine H_callV (c1) rfl rfl rfl rfl rfl rfl rfl rfl ?_
    refine G_if_eq rfl (fun h1 => ?_) (fun h1 => ?_)
    · exact absurd h1 (by decide)
    refine G_aload_n rfl rfl ?_
    refine G_iload_n rfl rfl ?_
    refine H_callV (c2) rfl rfl rfl rfl rfl rfl rfl rfl ?_
    refine G_if_eq rfl (fun h2 => ?_) (fun h2 => ?_)
    · exact absurd h2 (by decide)
    refine G_aload_n rfl rfl ?_
    refine G_bipush rfl ?_
    refine G_iload_n rfl rfl ?_
    refine G_iadd rfl ?_
    refine G_bipush rfl ?_
    refine G_iload_n rfl rfl ?_
    refine G_iadd rfl ?_
    refine H_callV (c4) rfl rfl rfl rfl rfl rfl rfl rfl ?_
    refine G_goto rfl ?_
    exact H_ret rfl rfl (rfl) (rfl)
set_option maxRecDepth 100000 in
theorem ml_reading (hC : CS row T (S 25)) (t p : Int32) : EvM kM_reading [.ref 24, .int t, .int p] (mk S R) (some (.int (a_reading row t p))) (mk S R) := by
  have c1 := ev_misTape S R hC t
  have c2 := ev_misPoint S R p
  unfold a_reading
  cases hb : tIs row t && isPt p with
  | false =>
    refine EvM_mk [some (.ref 24), some (.int t), some (.int p)] rfl rfl rfl rfl rfl (trivial) ?_
    refine G_aload_n rfl rfl ?_
    refine G_iload_n rfl rfl ?_
    refine H_callV (c1) rfl rfl rfl rfl rfl rfl rfl rfl ?_
    refine G_if_eq rfl (fun h1 => ?_) (fun h1 => ?_)
    · skip
      refine G_iconst rfl ?_
      exact H_ret rfl rfl (rfl) (rfl)
    refine G_iload_n rfl rfl ?_
    refine H_callS (c2) rfl rfl rfl rfl rfl ?_
    refine G_if_ne rfl (fun h2 => ?_) (fun h2 => ?_)
    · rw [b2i_n0.mp h1, b2i_n0.mp h2] at hb; cases hb
    · skip
      refine G_iconst rfl ?_
      exact H_ret rfl rfl (rfl) (rfl)
  | true =>
    rw [Bool.and_eq_true] at hb
    obtain ⟨b1, b2⟩ := hb
    rw [b1] at c1
    rw [b2] at c2
    have hT8 := hC.1.2.1
    obtain ⟨i, hi, rfl⟩ := tIs_ix hC.1.1 hT8 b1
    obtain ⟨j, hj, rfl⟩ := isPt_ix b2
    have c3 := ev_mhas S R hC (t := i) (p := j) (by omega) hj
    have c4 := ev_mof S R (t := i) (p := j) (by omega) hj
    rw [cond_true, tHas_nI (show i < 8 by omega) hj, tAt_nI (show i < 8 by omega) hj]
    cases hh : hs row (i * 12 + j) with
    | false =>
      rw [hh] at c3
      refine EvM_mk [some (.ref 24), some (.int (nI i)), some (.int (nI j))] rfl rfl rfl rfl rfl (trivial) ?_
      refine G_aload_n rfl rfl ?_
      refine G_iload_n rfl rfl ?_
      refine H_callV (c1) rfl rfl rfl rfl rfl rfl rfl rfl ?_
      refine G_if_eq rfl (fun h1 => ?_) (fun h1 => ?_)
      · exact absurd h1 (by decide)
      refine G_iload_n rfl rfl ?_
      refine H_callS (c2) rfl rfl rfl rfl rfl ?_
      refine G_if_ne rfl (fun h2 => ?_) (fun h2 => ?_)
      · skip
        refine G_aload_n rfl rfl ?_
        refine G_iload_n rfl rfl ?_
        refine G_iload_n rfl rfl ?_
        refine H_callV (c3) rfl rfl rfl rfl rfl rfl rfl rfl ?_
        refine G_if_eq rfl (fun h3 => ?_) (fun h3 => ?_)
        · skip
          refine G_bipush rfl ?_
          exact H_ret rfl rfl (rfl) (rfl)
        · exact absurd rfl h3
      · exact absurd h2 (by decide)
    | true =>
      rw [hh] at c3
      rw [CR_of hC (by omega) hh] at c4
      refine EvM_mk [some (.ref 24), some (.int (nI i)), some (.int (nI j))] rfl rfl rfl rfl rfl (trivial) ?_
      refine G_aload_n rfl rfl ?_
      refine G_iload_n rfl rfl ?_
      refine H_callV (c1) rfl rfl rfl rfl rfl rfl rfl rfl ?_
      refine G_if_eq rfl (fun h1 => ?_) (fun h1 => ?_)
      · exact absurd h1 (by decide)
      refine G_iload_n rfl rfl ?_
      refine H_callS (c2) rfl rfl rfl rfl rfl ?_
      refine G_if_ne rfl (fun h2 => ?_) (fun h2 => ?_)
      · skip
        refine G_aload_n rfl rfl ?_
        refine G_iload_n rfl rfl ?_
        refine G_iload_n rfl rfl ?_
        refine H_callV (c3) rfl rfl rfl rfl rfl rfl rfl rfl ?_
        refine G_if_eq rfl (fun h3 => ?_) (fun h3 => ?_)
        · exact absurd h3 (by decide)
        refine G_ldc rfl ?_
        refine G_aload_n rfl rfl ?_
        refine G_iload_n rfl rfl ?_
        refine G_iload_n rfl rfl ?_
        refine H_callV (c4) rfl rfl rfl rfl rfl rfl rfl rfl ?_
        refine G_iadd rfl ?_
        refine G_goto rfl ?_
        exact H_ret rfl rfl (rfl) (rfl)
      · exact absurd h2 (by decide)
set_option maxRecDepth 100000 in
theorem ev_mreason (hC : CS row T (S 25)) (hπ : Pot row π) {t p : Nat} (ht : t < 8) (hp : p < 12) (x : Int32) : ∃ S1, EvM kM_reasonToRead [.ref 24, .int (nI t), .int (nI p), .int x] (mk S R) (some (.int (rsV row π t p x))) (mk S1 R) ∧ sFr S S1 := by
  have c1 := ev_mhas S R hC ht hp
  unfold rsV
  cases hh : hs row (t * 12 + p) with
  | true =>
    rw [hh] at c1
    refine ⟨S, ?_, .rf⟩
    refine EvM_mk [some (.ref 24), some (.int (nI t)), some (.int (nI p)), some (.int x)] rfl rfl rfl rfl rfl (trivial) ?_
    refine G_aload_n rfl rfl ?_
    refine G_iload_n rfl rfl ?_
    refine G_iload_n rfl rfl ?_
    refine H_callV (c1) rfl rfl rfl rfl rfl rfl rfl rfl ?_
    refine G_if_eq rfl (fun h1 => ?_) (fun h1 => ?_)
    · exact absurd h1 (by decide)
    refine G_iconst rfl ?_
    exact H_ret rfl rfl (rfl) (rfl)
  | false =>
    rw [hh] at c1
    obtain ⟨S1, c2, fr, ms⟩ := ev_mspreads S R hC (a := 12 + t) (by omega)
    rw [← nI_add] at c2
    have hm := ms.1 p (by omega)
    refine ⟨S1, ?_, fr⟩
    rw [cond_false]
    cases hc : cB row (12 + t) p with
    | false =>
      rw [hc] at hm
      refine EvM_mk [some (.ref 24), some (.int (nI t)), some (.int (nI p)), some (.int x)] rfl rfl rfl rfl rfl (trivial) ?_
      refine G_aload_n rfl rfl ?_
      refine G_iload_n rfl rfl ?_
      refine G_iload_n rfl rfl ?_
      refine H_callV (c1) rfl rfl rfl rfl rfl rfl rfl rfl ?_
      refine G_if_eq rfl (fun h1 => ?_) (fun h1 => ?_)
      · skip
        refine G_aload_n rfl rfl ?_
        refine G_bipush rfl ?_
        refine G_iload_n rfl rfl ?_
        refine G_iadd rfl ?_
        refine H_callU (c2) rfl rfl rfl rfl rfl rfl rfl rfl ?_
        refine G_aload_n rfl rfl ?_
        refine H_getR rfl rfl rfl rfl rfl rfl ?_
        refine G_iload_n rfl rfl ?_
        refine H_bald rfl (rfl) (rfl) ((by omega)) (rfl) ?_
        refine G_if_eq rfl (fun h2 => ?_) (fun h2 => ?_)
        · skip
          refine G_iconst rfl ?_
          exact H_ret rfl rfl (rfl) (rfl)
        · exact absurd hm h2
      · exact absurd rfl h1
    | true =>
      rw [hc] at hm
      rw [← (ms.2 p (by omega) hc).1 π hπ, Bool.true_and]
      refine EvM_mk [some (.ref 24), some (.int (nI t)), some (.int (nI p)), some (.int x)] rfl rfl rfl rfl rfl (trivial) ?_
      refine G_aload_n rfl rfl ?_
      refine G_iload_n rfl rfl ?_
      refine G_iload_n rfl rfl ?_
      refine H_callV (c1) rfl rfl rfl rfl rfl rfl rfl rfl ?_
      refine G_if_eq rfl (fun h1 => ?_) (fun h1 => ?_)
      · skip
        refine G_aload_n rfl rfl ?_
        refine G_bipush rfl ?_
        refine G_iload_n rfl rfl ?_
        refine G_iadd rfl ?_
        refine H_callU (c2) rfl rfl rfl rfl rfl rfl rfl rfl ?_
        refine G_aload_n rfl rfl ?_
        refine H_getR rfl rfl rfl rfl rfl rfl ?_
        refine G_iload_n rfl rfl ?_
        refine H_bald rfl (rfl) (rfl) ((by omega)) (rfl) ?_
        refine G_if_eq rfl (fun h2 => ?_) (fun h2 => ?_)
        · exact absurd h2 (by rw [hm]; decide)
        refine G_aload_n rfl rfl ?_
        refine H_getR rfl rfl rfl rfl rfl rfl ?_
        refine G_iload_n rfl rfl ?_
        refine H_iald rfl (rfl) (rfl) ((by omega)) (rfl) ?_
        refine G_iload_n rfl rfl ?_
        refine G_icmp_eq rfl (fun h3 => ?_) (fun h3 => ?_)
        · skip
          refine G_iconst rfl ?_
          exact H_ret rfl rfl ((by rw [decide_eq_true h3]; rfl)) (rfl)
        refine G_iconst rfl ?_
        refine G_goto rfl ?_
        exact H_ret rfl rfl ((by rw [decide_eq_false h3]; rfl)) (rfl)
      · exact absurd rfl h1
set_option maxRecDepth 100000 in
theorem ml_whyNot (hC : CS row T (S 25)) (hπ : Pot row π) (t p x : Int32) : ∃ S1, EvM kM_whyNot [.ref 24, .int t, .int p, .int x] (mk S R) (some (.int (a_whyNot row π t p x))) (mk S1 R) ∧ sFr S S1 := by
  have c1 := ev_misTape S R hC t
  have c2 := ev_misPoint S R p
  have c3 := ev_misNumber S R x
  unfold a_whyNot
  cases hb : tIs row t && (isPt p && isNb x) with
  | false =>
    refine ⟨S, ?_, .rf⟩
    refine EvM_mk [some (.ref 24), some (.int t), some (.int p), some (.int x)] rfl rfl rfl rfl rfl (trivial) ?_
    refine G_aload_n rfl rfl ?_
    refine G_iload_n rfl rfl ?_
    refine H_callV (c1) rfl rfl rfl rfl rfl rfl rfl rfl ?_
    refine G_if_eq rfl (fun h1 => ?_) (fun h1 => ?_)
    · skip
      refine G_iconst rfl ?_
      exact H_ret rfl rfl (rfl) (rfl)
    refine G_iload_n rfl rfl ?_
    refine H_callS (c2) rfl rfl rfl rfl rfl ?_
    refine G_if_eq rfl (fun h2 => ?_) (fun h2 => ?_)
    · skip
      refine G_iconst rfl ?_
      exact H_ret rfl rfl (rfl) (rfl)
    refine G_iload_n rfl rfl ?_
    refine H_callS (c3) rfl rfl rfl rfl rfl ?_
    refine G_if_eq rfl (fun h3 => ?_) (fun h3 => ?_)
    · skip
      refine G_iconst rfl ?_
      exact H_ret rfl rfl (rfl) (rfl)
    · rw [b2i_n0.mp h1, b2i_n0.mp h2, b2i_n0.mp h3] at hb; cases hb
  | true =>
    rw [Bool.and_eq_true, Bool.and_eq_true] at hb
    obtain ⟨b1, b2, b3⟩ := hb
    rw [b1] at c1
    rw [b2] at c2
    rw [b3] at c3
    have hT8 := hC.1.2.1
    obtain ⟨i, hi, rfl⟩ := tIs_ix hC.1.1 hT8 b1
    obtain ⟨j, hj, rfl⟩ := isPt_ix b2
    rw [nI_clamp (show i < 2 ^ 31 by omega), nI_clamp (show j < 2 ^ 31 by omega), cond_true]
    obtain ⟨S1, c4, fr⟩ := ev_mreason S R hC hπ (t := i) (p := j) (by omega) (by omega) x
    refine ⟨S1, ?_, fr⟩
    refine EvM_mk [some (.ref 24), some (.int (nI i)), some (.int (nI j)), some (.int x)] rfl rfl rfl rfl rfl (trivial) ?_
    refine G_aload_n rfl rfl ?_
    refine G_iload_n rfl rfl ?_
    refine H_callV (c1) rfl rfl rfl rfl rfl rfl rfl rfl ?_
    refine G_if_eq rfl (fun h1 => ?_) (fun h1 => ?_)
    · exact absurd h1 (by decide)
    refine G_iload_n rfl rfl ?_
    refine H_callS (c2) rfl rfl rfl rfl rfl ?_
    refine G_if_eq rfl (fun h2 => ?_) (fun h2 => ?_)
    · exact absurd h2 (by decide)
    refine G_iload_n rfl rfl ?_
    refine H_callS (c3) rfl rfl rfl rfl rfl ?_
    refine G_if_eq rfl (fun h3 => ?_) (fun h3 => ?_)
    · exact absurd h3 (by decide)
    refine G_aload_n rfl rfl ?_
    refine G_iload_n rfl rfl ?_
    refine G_iload_n rfl rfl ?_
    refine G_iload_n rfl rfl ?_
    refine H_callV (c4) rfl rfl rfl rfl rfl rfl rfl rfl ?_
    refine G_goto rfl ?_
    exact H_ret rfl rfl (rfl) (rfl)
set_option maxRecDepth 100000 in
theorem ev_mmetPoints {a : Nat} (hm : ∀ x, x < 20 → S 29 x = b2i (cB row a x)) : EvM kM_metPoints [.ref 24] (mk S R) (some (.int (nI (pW row a 0 12)))) (mk S R) := by
  rw [show pW row a 0 12 = cnt (fun i => cB row a i) 12 from cnt_congr (fun i hi => by rw [Nat.zero_add])]
  refine EvM_mk [some (.ref 24), none, none] rfl rfl rfl rfl rfl (trivial) ?_
  refine G_iconst rfl ?_
  refine H_ist_3_1 rfl rfl ?_
  refine G_iconst rfl ?_
  refine H_ist_3_2 rfl rfl ?_
  refine down 12 (fun i => Gm kM_metPoints 4 [some (.ref 24), some (.int (nI (cnt (fun i => cB row a i) i))), some (.int (nI i))] [] (S, PF R, 32) _ _) ?_ (fun i hi ih => ?_)
  · skip
    refine G_iload_n rfl rfl ?_
    refine G_bipush rfl ?_
    refine G_icmp_ge rfl (fun h => ?_) (fun h => ?_)
    · skip
      refine G_iload_n rfl rfl ?_
      exact H_ret rfl rfl (rfl) (rfl)
    · exact absurd (by decide) h
  · skip
    refine G_iload_n rfl rfl ?_
    refine G_bipush rfl ?_
    refine G_icmp_ge rfl (fun h => ?_) (fun h => ?_)
    · exact absurd h (ge_no hi (by decide))
    refine G_iload_n rfl rfl ?_
    refine G_aload_n rfl rfl ?_
    refine H_getR rfl rfl rfl rfl rfl rfl ?_
    refine G_iload_n rfl rfl ?_
    refine H_bald rfl (rfl) (rfl) ((by omega)) (rfl) ?_
    refine G_if_eq rfl (fun h1 => ?_) (fun h1 => ?_)
    · skip
      refine G_iconst rfl ?_
      refine G_iadd rfl ?_
      refine H_ist_3_1 rfl rfl ?_
      refine H_inc_3_2 rfl rfl ?_
      refine G_goto rfl ?_
      rw [hm i (by omega)] at h1
      rw [cnt_f (n := i) (f := fun i => cB row a i) (b2i_0.mp h1), nI_succ i, ← Int32.add_zero (nI (cnt (fun i => cB row a i) i))] at ih
      exact ih
    · skip
      refine G_iconst rfl ?_
      refine G_goto rfl ?_
      refine G_iadd rfl ?_
      refine H_ist_3_1 rfl rfl ?_
      refine H_inc_3_2 rfl rfl ?_
      refine G_goto rfl ?_
      rw [hm i (by omega)] at h1
      rw [cnt_t (n := i) (f := fun i => cB row a i) (b2i_n0.mp h1), nI_succ i, nI_succ] at ih
      exact ih
set_option maxRecDepth 100000 in
theorem ev_mmoreBy (hC : CS row T (S 25)) {t p : Nat} (ht : t < 8) (hp : p < 12) : ∃ S1, EvM kM_moreBy [.ref 24, .int (nI t), .int (nI p)] (mk S R) (some (.int (nI (nP row t p)))) (mk S1 R) ∧ sFr S S1 := by
  obtain ⟨S1, c1, f1, m1⟩ := ev_mspreads S R hC (a := 12 + t) (by omega)
  rw [← nI_add] at c1
  have hm := m1.1 p (by omega)
  unfold nP
  cases hc : cB row (12 + t) p with
  | true =>
    rw [hc] at hm
    refine ⟨S1, ?_, f1⟩
    refine EvM_mk [some (.ref 24), some (.int (nI t)), some (.int (nI p)), none] rfl rfl rfl rfl rfl (trivial) ?_
    refine G_aload_n rfl rfl ?_
    refine G_bipush rfl ?_
    refine G_iload_n rfl rfl ?_
    refine G_iadd rfl ?_
    refine H_callU (c1) rfl rfl rfl rfl rfl rfl rfl rfl ?_
    refine G_aload_n rfl rfl ?_
    refine H_getR rfl rfl rfl rfl rfl rfl ?_
    refine G_iload_n rfl rfl ?_
    refine H_bald rfl (rfl) (rfl) ((by omega)) (rfl) ?_
    refine G_if_eq rfl (fun h => ?_) (fun h => ?_)
    · exact absurd h (by rw [hm]; decide)
    refine G_iconst rfl ?_
    exact H_ret rfl rfl (rfl) (rfl)
  | false =>
    rw [hc] at hm
    have c2 := ev_mmetPoints S1 R m1.1
    obtain ⟨S2, c3, f2, m2⟩ := ev_mspreads S1 R (row := row) (T := T) (by rw [f1 25 (by decide) (by decide)]; exact hC) (a := p) (by omega)
    have c4 := ev_mmetPoints S2 R m2.1
    refine ⟨S2, ?_, f1.tr f2⟩
    rw [cond_false, nI_mul']
    refine EvM_mk [some (.ref 24), some (.int (nI t)), some (.int (nI p)), none] rfl rfl rfl rfl rfl (trivial) ?_
    refine G_aload_n rfl rfl ?_
    refine G_bipush rfl ?_
    refine G_iload_n rfl rfl ?_
    refine G_iadd rfl ?_
    refine H_callU (c1) rfl rfl rfl rfl rfl rfl rfl rfl ?_
    refine G_aload_n rfl rfl ?_
    refine H_getR rfl rfl rfl rfl rfl rfl ?_
    refine G_iload_n rfl rfl ?_
    refine H_bald rfl (rfl) (rfl) ((by omega)) (rfl) ?_
    refine G_if_eq rfl (fun h => ?_) (fun h => ?_)
    · skip
      refine G_aload_n rfl rfl ?_
      refine H_callV (c2) rfl rfl rfl rfl rfl rfl rfl rfl ?_
      refine H_ist_4_3 rfl rfl ?_
      refine G_aload_n rfl rfl ?_
      refine G_iload_n rfl rfl ?_
      refine H_callU (c3) rfl rfl rfl rfl rfl rfl rfl rfl ?_
      refine G_iload_n rfl rfl ?_
      refine G_aload_n rfl rfl ?_
      refine H_callV (c4) rfl rfl rfl rfl rfl rfl rfl rfl ?_
      refine G_imul rfl ?_
      exact H_ret rfl rfl (rfl) (rfl)
    · exact absurd hm h
set_option maxRecDepth 100000 in
theorem ml_ifRead (hC : CS row T (S 25)) (t p : Int32) : ∃ S1, EvM kM_ifRead [.ref 24, .int t, .int p] (mk S R) (some (.int (a_ifRead row t p))) (mk S1 R) ∧ sFr S S1 := by
  have c1 := ev_misTape S R hC t
  have c2 := ev_misPoint S R p
  unfold a_ifRead
  cases hb : tIs row t && isPt p with
  | false =>
    refine ⟨S, ?_, .rf⟩
    refine EvM_mk [some (.ref 24), some (.int t), some (.int p)] rfl rfl rfl rfl rfl (trivial) ?_
    refine G_aload_n rfl rfl ?_
    refine G_iload_n rfl rfl ?_
    refine H_callV (c1) rfl rfl rfl rfl rfl rfl rfl rfl ?_
    refine G_if_eq rfl (fun h1 => ?_) (fun h1 => ?_)
    · skip
      refine G_iconst rfl ?_
      exact H_ret rfl rfl (rfl) (rfl)
    refine G_iload_n rfl rfl ?_
    refine H_callS (c2) rfl rfl rfl rfl rfl ?_
    refine G_if_eq rfl (fun h2 => ?_) (fun h2 => ?_)
    · skip
      refine G_iconst rfl ?_
      exact H_ret rfl rfl (rfl) (rfl)
    · rw [b2i_n0.mp h1, b2i_n0.mp h2] at hb; cases hb
  | true =>
    rw [Bool.and_eq_true] at hb
    obtain ⟨b1, b2⟩ := hb
    rw [b1] at c1
    rw [b2] at c2
    have hT8 := hC.1.2.1
    obtain ⟨i, hi, rfl⟩ := tIs_ix hC.1.1 hT8 b1
    obtain ⟨j, hj, rfl⟩ := isPt_ix b2
    rw [nI_clamp (show i < 2 ^ 31 by omega), nI_clamp (show j < 2 ^ 31 by omega), cond_true]
    obtain ⟨S1, c4, fr⟩ := ev_mmoreBy S R hC (t := i) (p := j) (by omega) (by omega)
    refine ⟨S1, ?_, fr⟩
    refine EvM_mk [some (.ref 24), some (.int (nI i)), some (.int (nI j))] rfl rfl rfl rfl rfl (trivial) ?_
    refine G_aload_n rfl rfl ?_
    refine G_iload_n rfl rfl ?_
    refine H_callV (c1) rfl rfl rfl rfl rfl rfl rfl rfl ?_
    refine G_if_eq rfl (fun h1 => ?_) (fun h1 => ?_)
    · exact absurd h1 (by decide)
    refine G_iload_n rfl rfl ?_
    refine H_callS (c2) rfl rfl rfl rfl rfl ?_
    refine G_if_eq rfl (fun h2 => ?_) (fun h2 => ?_)
    · exact absurd h2 (by decide)
    refine G_aload_n rfl rfl ?_
    refine G_iload_n rfl rfl ?_
    refine G_iload_n rfl rfl ?_
    refine H_callV (c4) rfl rfl rfl rfl rfl rfl rfl rfl ?_
    refine G_goto rfl ?_
    exact H_ret rfl rfl (rfl) (rfl)
end ML
