/-! the deeds: what is recorded, what the table is then -/
section XM
variable (S : Nat → Nat → Int32) (R : Nat → Nat)
theorem rec_ne (hR : RO R) {n i : Nat} (hn4 : n ≤ 4) (h : i < 3 ∨ i = 4 ∨ 8 < i) : recS S R n i = S i := by
  have h5 := (RO_rec hR n).1 (recN n) (by unfold recN; split <;> omega)
  unfold recS
  rw [u2_ne (by omega), u2_ne (by omega)]
def a_append (n : Nat) (c : Int32) : Int32 := if c < 33 ∨ ¬ c ≤ 126 then -1 else if n < 60 then nI (n + 1) else -3
def s_append (n : Nat) (c : Int32) : Nat → Nat → Int32 := if c < 33 ∨ ¬ c ≤ 126 then S else if n < 60 then xApp S 10 11 n [c] else S
set_option maxRecDepth 100000 in
theorem xm_append {n : Nat} (hn : S 10 1 = nI n) (hc : n ≤ 60) (c : Int32) : EvM kX_append [.ref 0, .int c] (mk S R) (some (.int (a_append n c))) (mk (s_append S n c) R) := by
  have hx : XQ 10 11 60 := Or.inl ⟨rfl, rfl, rfl⟩
  have c1 := ev_xlen hx S R
  rw [hn] at c1
  unfold a_append s_append
  by_cases h : c < 33 ∨ ¬ c ≤ 126
  · rw [if_pos h, if_pos h]
    refine EvM_mk [some (.ref 0), some (.int c)] rfl rfl rfl rfl rfl (trivial) ?_
    refine G_iload_n rfl rfl ?_
    refine G_bipush rfl ?_
    refine G_icmp_lt rfl (fun h1 => ?_) (fun h1 => ?_)
    · skip
      refine G_iconst rfl ?_
      exact H_ret rfl rfl (rfl) (rfl)
    refine G_iload_n rfl rfl ?_
    refine G_bipush rfl ?_
    refine G_icmp_le rfl (fun h2 => ?_) (fun h2 => ?_)
    · exact absurd h (by rintro (q | q); exact h1 q; exact q h2)
    · skip
      refine G_iconst rfl ?_
      exact H_ret rfl rfl (rfl) (rfl)
  · rw [if_neg h, if_neg h]
    by_cases h6 : n < 60
    · rw [if_pos h6, if_pos h6]
      have c2 := ev_xadd hx S R hn h6 c
      have c3 := ev_xlen hx (xApp S 10 11 n [c]) R
      have e : xApp S 10 11 n [c] 10 1 = nI (n + 1) := by unfold xApp; rw [u2_same, upd_same]; rfl
      rw [e] at c3
      refine EvM_mk [some (.ref 0), some (.int c)] rfl rfl rfl rfl rfl (trivial) ?_
      refine G_iload_n rfl rfl ?_
      refine G_bipush rfl ?_
      refine G_icmp_lt rfl (fun h1 => ?_) (fun h1 => ?_)
      · exact absurd (Or.inl h1) h
      refine G_iload_n rfl rfl ?_
      refine G_bipush rfl ?_
      refine G_icmp_le rfl (fun h2 => ?_) (fun h2 => ?_)
      · skip
        refine G_aload_n rfl rfl ?_
        refine H_getR rfl rfl rfl rfl rfl rfl ?_
        refine H_callV (c1) rfl rfl rfl rfl rfl rfl rfl rfl ?_
        refine G_bipush rfl ?_
        refine G_icmp_lt rfl (fun h3 => ?_) (fun h3 => ?_)
        · skip
          refine G_aload_n rfl rfl ?_
          refine H_getR rfl rfl rfl rfl rfl rfl ?_
          refine G_iload_n rfl rfl ?_
          refine H_callU (c2) rfl rfl rfl rfl rfl rfl rfl rfl ?_
          refine G_aload_n rfl rfl ?_
          refine H_getR rfl rfl rfl rfl rfl rfl ?_
          refine H_callV (c3) rfl rfl rfl rfl rfl rfl rfl rfl ?_
          exact H_ret rfl rfl (rfl) (rfl)
        · exact absurd (nI_lt (b := 60) h6 (by decide)) h3
      · exact absurd (Or.inr h2) h
    · rw [if_neg h6, if_neg h6]
      refine EvM_mk [some (.ref 0), some (.int c)] rfl rfl rfl rfl rfl (trivial) ?_
      refine G_iload_n rfl rfl ?_
      refine G_bipush rfl ?_
      refine G_icmp_lt rfl (fun h1 => ?_) (fun h1 => ?_)
      · exact absurd (Or.inl h1) h
      refine G_iload_n rfl rfl ?_
      refine G_bipush rfl ?_
      refine G_icmp_le rfl (fun h2 => ?_) (fun h2 => ?_)
      · skip
        refine G_aload_n rfl rfl ?_
        refine H_getR rfl rfl rfl rfl rfl rfl ?_
        refine H_callV (c1) rfl rfl rfl rfl rfl rfl rfl rfl ?_
        refine G_bipush rfl ?_
        refine G_icmp_lt rfl (fun h3 => ?_) (fun h3 => ?_)
        · exact absurd h3 (by rw [show n = 60 by omega]; decide)
        · skip
          refine G_bipush rfl ?_
          exact H_ret rfl rfl (rfl) (rfl)
      · exact absurd (Or.inr h2) h
set_option maxRecDepth 100000 in
theorem xm_clear : EvM kX_clear [.ref 0] (mk S R) (some (.int (S 10 1))) (mk (u2 S 10 (upd (S 10) 1 0)) R) := by
  have hx : XQ 10 11 60 := Or.inl ⟨rfl, rfl, rfl⟩
  refine EvM_mk [some (.ref 0), none] rfl rfl rfl rfl rfl (trivial) ?_
  refine G_aload_n rfl rfl ?_
  refine H_getR rfl rfl rfl rfl rfl rfl ?_
  refine H_callV (ev_xlen hx S R) rfl rfl rfl rfl rfl rfl rfl rfl ?_
  refine H_ist_2_1 rfl rfl ?_
  refine G_aload_n rfl rfl ?_
  refine H_getR rfl rfl rfl rfl rfl rfl ?_
  refine H_callU (ev_xempty hx S R) rfl rfl rfl rfl rfl rfl rfl rfl ?_
  refine G_iload_n rfl rfl ?_
  exact H_ret rfl rfl (rfl) (rfl)
set_option maxRecDepth 100000 in
theorem xm_fault {n : Nat} (hn : S 10 1 = nI n) (hc : n ≤ 60) : EvM kX_fault [.ref 0] (mk S R) (some (.int (gF (S 11) n n 0 0))) (mk S R) := by
  refine EvM_mk [some (.ref 0)] rfl rfl rfl rfl rfl (trivial) ?_
  refine G_aload_n rfl rfl ?_
  refine H_getR rfl rfl rfl rfl rfl rfl ?_
  refine H_callS (ev_firstFault S R hn hc) rfl rfl rfl rfl rfl ?_
  exact H_ret rfl rfl (rfl) (rfl)
def a_why (w : Int32) : Int32 := if w < 0 ∨ ¬ w < 3 then -1 else if S 0 6 = 0 then -4 else S 12 w.toNatClampNeg
set_option maxRecDepth 100000 in
theorem xm_why (w : Int32) : EvM kX_why [.ref 0, .int w] (mk S R) (some (.int (a_why S w))) (mk S R) := by
  unfold a_why
  by_cases h : w < 0 ∨ ¬ w < 3
  · rw [if_pos h]
    refine EvM_mk [some (.ref 0), some (.int w)] rfl rfl rfl rfl rfl (trivial) ?_
    refine G_iload_n rfl rfl ?_
    refine G_if_lt rfl (fun h1 => ?_) (fun h1 => ?_)
    · skip
      refine G_iconst rfl ?_
      exact H_ret rfl rfl (rfl) (rfl)
    refine G_iload_n rfl rfl ?_
    refine G_iconst rfl ?_
    refine G_icmp_lt rfl (fun h2 => ?_) (fun h2 => ?_)
    · exact absurd h (by rintro (q | q); exact h1 q; exact q h2)
    · skip
      refine G_iconst rfl ?_
      exact H_ret rfl rfl (rfl) (rfl)
  · rw [if_neg h]
    have w0 : ¬ w < 0 := fun q => h (Or.inl q)
    have w3 : w < 3 := Decidable.byContradiction fun q => h (Or.inr q)
    obtain ⟨j, hj, rfl⟩ := lt_ix 3 (by decide) w0 (Int32.not_le.mpr w3)
    rw [nI_clamp (show j < 2 ^ 31 by omega)]
    by_cases h6 : S 0 6 = 0
    · rw [if_pos h6]
      refine EvM_mk [some (.ref 0), some (.int (nI j))] rfl rfl rfl rfl rfl (trivial) ?_
      refine G_iload_n rfl rfl ?_
      refine G_if_lt rfl (fun h1 => ?_) (fun h1 => ?_)
      · exact absurd h1 w0
      refine G_iload_n rfl rfl ?_
      refine G_iconst rfl ?_
      refine G_icmp_lt rfl (fun h2 => ?_) (fun h2 => ?_)
      · skip
        refine G_aload_n rfl rfl ?_
        refine H_getI rfl rfl rfl rfl ?_
        refine G_if_eq rfl (fun h3 => ?_) (fun h3 => ?_)
        · skip
          refine G_bipush rfl ?_
          exact H_ret rfl rfl (rfl) (rfl)
        · exact absurd h6 h3
      · exact absurd w3 h2
    · rw [if_neg h6]
      refine EvM_mk [some (.ref 0), some (.int (nI j))] rfl rfl rfl rfl rfl (trivial) ?_
      refine G_iload_n rfl rfl ?_
      refine G_if_lt rfl (fun h1 => ?_) (fun h1 => ?_)
      · exact absurd h1 w0
      refine G_iload_n rfl rfl ?_
      refine G_iconst rfl ?_
      refine G_icmp_lt rfl (fun h2 => ?_) (fun h2 => ?_)
      · skip
        refine G_aload_n rfl rfl ?_
        refine H_getI rfl rfl rfl rfl ?_
        refine G_if_eq rfl (fun h3 => ?_) (fun h3 => ?_)
        · exact absurd h3 h6
        refine G_aload_n rfl rfl ?_
        refine H_getR rfl rfl rfl rfl rfl rfl ?_
        refine G_iload_n rfl rfl ?_
        refine H_iald rfl (rfl) (rfl) (hj) (rfl) ?_
        refine G_goto rfl ?_
        exact H_ret rfl rfl (rfl) (rfl)
      · exact absurd w3 h2
set_option maxRecDepth 100000 in
theorem xm_save {T : Nat} (hT : NT (S 2) T) : EvM kX_save [.ref 0] (mk S R) (some (.int (nI (tAll (S 2) T)))) (mk (u2 (u2 S 9 (cpy (S 2) (S 9) 101)) 0 (upd (S 0) 3 1)) R) := by
  have hq : TQ 1 2 := Or.inl ⟨rfl, rfl⟩
  have c1 := ev_copyTo hq S R (o := 9) (by decide) rfl rfl
  have c2 := ev_readings hq (u2 (u2 S 9 (cpy (S 2) (S 9) 101)) 0 (upd (S 0) 3 1)) R (T := T) (by rw [u2_ne (by decide), u2_ne (by decide)]; exact hT.1) hT.2.1
  rw [u2_ne (show 2 ≠ 0 by decide), u2_ne (show 2 ≠ 9 by decide)] at c2
  refine EvM_mk [some (.ref 0)] rfl rfl rfl rfl rfl (trivial) ?_
  refine G_aload_n rfl rfl ?_
  refine H_getR rfl rfl rfl rfl rfl rfl ?_
  refine G_aload_n rfl rfl ?_
  refine H_getR rfl rfl rfl rfl rfl rfl ?_
  refine H_callU (c1) rfl rfl rfl rfl rfl rfl rfl rfl ?_
  refine G_aload_n rfl rfl ?_
  refine G_iconst rfl ?_
  refine H_putI rfl rfl rfl rfl ?_
  rw [u2_ne (show 0 ≠ 9 by decide)]
  refine G_aload_n rfl rfl ?_
  refine H_getR rfl rfl rfl rfl rfl rfl ?_
  refine H_callV (c2) rfl rfl rfl rfl rfl rfl rfl rfl ?_
  exact H_ret rfl rfl (rfl) (rfl)
set_option maxRecDepth 100000 in
theorem xm_undo0 (hn : S 3 1 = 0) : EvM kX_undo [.ref 0] (mk S R) (some (.int (-2))) (mk S R) := by
  have c1 := ev_hstates S R
  rw [hn] at c1
  refine EvM_mk [some (.ref 0)] rfl rfl rfl rfl rfl (trivial) ?_
  refine G_aload_n rfl rfl ?_
  refine H_getR rfl rfl rfl rfl rfl rfl ?_
  refine H_callV (c1) rfl rfl rfl rfl rfl rfl rfl rfl ?_
  refine G_if_ne rfl (fun h => ?_) (fun h => ?_)
  · exact absurd rfl h
  refine G_bipush rfl ?_
  exact H_ret rfl rfl (rfl) (rfl)
set_option maxRecDepth 100000 in
theorem xm_undo (hR : RO R) {n : Nat} (hn : S 3 1 = nI (n + 1)) (hn4 : n < 4) : EvM kX_undo [.ref 0] (mk S R) (some (.int (nI n))) (mk (u2 (u2 S 3 (upd (S 3) 1 (nI n))) 2 (cpy (S (R n)) (S 2) 101)) R) := by
  have c1 := ev_hstates S R
  have c2 := ev_bringBack S R hR hn hn4
  have c3 := ev_hstates (u2 (u2 S 3 (upd (S 3) 1 (nI n))) 2 (cpy (S (R n)) (S 2) 101)) R
  rw [u2_ne (show 3 ≠ 2 by decide), u2_same, upd_same] at c3
  rw [hn] at c1
  refine EvM_mk [some (.ref 0)] rfl rfl rfl rfl rfl (trivial) ?_
  refine G_aload_n rfl rfl ?_
  refine H_getR rfl rfl rfl rfl rfl rfl ?_
  refine H_callV (c1) rfl rfl rfl rfl rfl rfl rfl rfl ?_
  refine G_if_ne rfl (fun h => ?_) (fun h => ?_)
  · skip
    refine G_aload_n rfl rfl ?_
    refine H_getR rfl rfl rfl rfl rfl rfl ?_
    refine G_aload_n rfl rfl ?_
    refine H_getR rfl rfl rfl rfl rfl rfl ?_
    refine H_callU (c2) rfl rfl rfl rfl rfl rfl rfl rfl ?_
    refine G_aload_n rfl rfl ?_
    refine H_getR rfl rfl rfl rfl rfl rfl ?_
    refine H_callV (c3) rfl rfl rfl rfl rfl rfl rfl rfl ?_
    exact H_ret rfl rfl (rfl) (rfl)
  · exact absurd (Decidable.of_not_not h) (fun q => by have := (nI_0iff (by omega)).mp q; omega)
set_option maxRecDepth 100000 in
theorem xm_restore0 (h0 : S 0 3 = 0) : EvM kX_restore [.ref 0] (mk S R) (some (.int (-2))) (mk S R) := by
  refine EvM_mk [some (.ref 0)] rfl rfl rfl rfl rfl (trivial) ?_
  refine G_aload_n rfl rfl ?_
  refine H_getI rfl rfl rfl rfl ?_
  refine G_if_ne rfl (fun h => ?_) (fun h => ?_)
  · exact absurd h0 h
  refine G_bipush rfl ?_
  exact H_ret rfl rfl (rfl) (rfl)
set_option maxRecDepth 100000 in
theorem xm_restore (hR : RO R) {n T : Nat} (hn : S 3 1 = nI n) (hn4 : n ≤ 4) (h0 : S 0 3 ≠ 0) (hT : NT (S 9) T) : EvM kX_restore [.ref 0] (mk S R) (some (.int (nI (tAll (cpy (S 9) (S 2) 101) T)))) (mk (u2 (recS S R n) 2 (cpy (S 9) (S 2) 101)) (recR R n)) := by
  have hq : TQ 1 2 := Or.inl ⟨rfl, rfl⟩
  have c1 := ev_record S R hR hn hn4
  have c2 := ev_copyFrom hq (recS S R n) (recR R n) (o := 9) (by decide) rfl rfl
  rw [rec_ne S R hR hn4 (by decide), rec_ne S R hR hn4 (by decide)] at c2
  have c3 := ev_readings hq (u2 (recS S R n) 2 (cpy (S 9) (S 2) 101)) (recR R n) (T := T) (by rw [u2_same]; exact hT.1) hT.2.1
  rw [u2_same] at c3
  refine EvM_mk [some (.ref 0)] rfl rfl rfl rfl rfl (trivial) ?_
  refine G_aload_n rfl rfl ?_
  refine H_getI rfl rfl rfl rfl ?_
  refine G_if_ne rfl (fun h => ?_) (fun h => ?_)
  · skip
    refine G_aload_n rfl rfl ?_
    refine H_getR rfl rfl rfl rfl rfl rfl ?_
    refine G_aload_n rfl rfl ?_
    refine H_getR rfl rfl rfl rfl rfl rfl ?_
    refine H_callU (c1) rfl rfl rfl rfl rfl rfl rfl rfl ?_
    refine G_aload_n rfl rfl ?_
    refine H_getR rfl rfl rfl rfl rfl rfl ?_
    refine G_aload_n rfl rfl ?_
    refine H_getR rfl rfl rfl rfl rfl rfl ?_
    refine H_callU (c2) rfl rfl rfl rfl rfl rfl rfl rfl ?_
    refine G_aload_n rfl rfl ?_
    refine H_getR rfl rfl rfl rfl rfl rfl ?_
    refine H_callV (c3) rfl rfl rfl rfl rfl rfl rfl rfl ?_
    exact H_ret rfl rfl (rfl) (rfl)
  · exact absurd (Decidable.of_not_not h) h0
set_option maxRecDepth 100000 in
theorem xm_tape0 {T : Nat} (hT : NT (S 2) T) (h8 : ¬ T < 8) : EvM kX_tape [.ref 0] (mk S R) (some (.int (-3))) (mk S R) := by
  have hq : TQ 1 2 := Or.inl ⟨rfl, rfl⟩
  have c1 := ev_tapes hq S R
  rw [hT.1] at c1
  have := hT.2.1
  refine EvM_mk [some (.ref 0)] rfl rfl rfl rfl rfl (trivial) ?_
  refine G_aload_n rfl rfl ?_
  refine H_getR rfl rfl rfl rfl rfl rfl ?_
  refine H_callV (c1) rfl rfl rfl rfl rfl rfl rfl rfl ?_
  refine G_bipush rfl ?_
  refine G_icmp_lt rfl (fun h => ?_) (fun h => ?_)
  · exact absurd h (by rw [show T = 8 by omega]; decide)
  refine G_bipush rfl ?_
  exact H_ret rfl rfl (rfl) (rfl)
set_option maxRecDepth 100000 in
theorem xm_tape (hR : RO R) {n T : Nat} (hn : S 3 1 = nI n) (hn4 : n ≤ 4) (hT : NT (S 2) T) (h8 : T < 8) : EvM kX_tape [.ref 0] (mk S R) (some (.int (nI T))) (mk (u2 (recS S R n) 2 (upd (S 2) 96 (nI (T + 1)))) (recR R n)) := by
  have hq : TQ 1 2 := Or.inl ⟨rfl, rfl⟩
  have c1 := ev_tapes hq S R
  rw [hT.1] at c1
  have c2 := ev_record S R hR hn hn4
  have c3 := ev_bring hq (recS S R n) (recR R n)
  rw [rec_ne S R hR hn4 (by decide), hT.1, ← nI_succ] at c3
  refine EvM_mk [some (.ref 0)] rfl rfl rfl rfl rfl (trivial) ?_
  refine G_aload_n rfl rfl ?_
  refine H_getR rfl rfl rfl rfl rfl rfl ?_
  refine H_callV (c1) rfl rfl rfl rfl rfl rfl rfl rfl ?_
  refine G_bipush rfl ?_
  refine G_icmp_lt rfl (fun h => ?_) (fun h => ?_)
  · skip
    refine G_aload_n rfl rfl ?_
    refine H_getR rfl rfl rfl rfl rfl rfl ?_
    refine G_aload_n rfl rfl ?_
    refine H_getR rfl rfl rfl rfl rfl rfl ?_
    refine H_callU (c2) rfl rfl rfl rfl rfl rfl rfl rfl ?_
    refine G_aload_n rfl rfl ?_
    refine H_getR rfl rfl rfl rfl rfl rfl ?_
    refine H_callV (c3) rfl rfl rfl rfl rfl rfl rfl rfl ?_
    exact H_ret rfl rfl (rfl) (rfl)
  · exact absurd (nI_lt (b := 8) h8 (by decide)) h
set_option maxRecDepth 100000 in
theorem xm_drop0 {t : Int32} (h : tIs (S 2) t = false) : EvM kX_drop [.ref 0, .int t] (mk S R) (some (.int (-1))) (mk S R) := by
  have hq : TQ 1 2 := Or.inl ⟨rfl, rfl⟩
  have c1 := ev_isTape hq S R t
  rw [h] at c1
  refine EvM_mk [some (.ref 0), some (.int t), none] rfl rfl rfl rfl rfl (trivial) ?_
  refine G_aload_n rfl rfl ?_
  refine H_getR rfl rfl rfl rfl rfl rfl ?_
  refine G_iload_n rfl rfl ?_
  refine H_callV (c1) rfl rfl rfl rfl rfl rfl rfl rfl ?_
  refine G_if_ne rfl (fun h => ?_) (fun h => ?_)
  · exact absurd rfl h
  refine G_iconst rfl ?_
  exact H_ret rfl rfl (rfl) (rfl)
set_option maxRecDepth 100000 in
theorem xm_drop (hR : RO R) {n a : Nat} (hn : S 3 1 = nI n) (hn4 : n ≤ 4) (ha : a < 8) (h : tIs (S 2) (nI a) = true) : EvM kX_drop [.ref 0, .int (nI a)] (mk S R) (some (.int (nI (tOf (S 2) (nI a) 12)))) (mk (u2 (recS S R n) 2 (tRem (S 2) a)) (recR R n)) := by
  have hq : TQ 1 2 := Or.inl ⟨rfl, rfl⟩
  have c1 := ev_isTape hq S R (nI a)
  rw [h] at c1
  have c2 := ev_record S R hR hn hn4
  have c3 := ev_readingsOf hq (recS S R n) (recR R n) (nI a)
  have c4 := ev_remove (recS S R n) (recR R n) ha
  rw [rec_ne S R hR hn4 (by decide)] at c3 c4
  refine EvM_mk [some (.ref 0), some (.int (nI a)), none] rfl rfl rfl rfl rfl (trivial) ?_
  refine G_aload_n rfl rfl ?_
  refine H_getR rfl rfl rfl rfl rfl rfl ?_
  refine G_iload_n rfl rfl ?_
  refine H_callV (c1) rfl rfl rfl rfl rfl rfl rfl rfl ?_
  refine G_if_ne rfl (fun h => ?_) (fun h => ?_)
  · skip
    refine G_aload_n rfl rfl ?_
    refine H_getR rfl rfl rfl rfl rfl rfl ?_
    refine G_aload_n rfl rfl ?_
    refine H_getR rfl rfl rfl rfl rfl rfl ?_
    refine H_callU (c2) rfl rfl rfl rfl rfl rfl rfl rfl ?_
    refine G_aload_n rfl rfl ?_
    refine H_getR rfl rfl rfl rfl rfl rfl ?_
    refine G_iload_n rfl rfl ?_
    refine H_callV (c3) rfl rfl rfl rfl rfl rfl rfl rfl ?_
    refine H_ist_3_2 rfl rfl ?_
    refine G_aload_n rfl rfl ?_
    refine H_getR rfl rfl rfl rfl rfl rfl ?_
    refine G_iload_n rfl rfl ?_
    refine H_callU (c4) rfl rfl rfl rfl rfl rfl rfl rfl ?_
    refine G_iload_n rfl rfl ?_
    exact H_ret rfl rfl (rfl) (rfl)
  · exact absurd h (by decide)
set_option maxRecDepth 100000 in
theorem xm_lose0 {t p : Int32} (h : (tIs (S 2) t && isPt p) = false) : EvM kX_lose [.ref 0, .int t, .int p] (mk S R) (some (.int (-1))) (mk S R) := by
  have hq : TQ 1 2 := Or.inl ⟨rfl, rfl⟩
  have c1 := ev_isTape hq S R t
  have c2 := ev_isPoint S R p
  refine EvM_mk [some (.ref 0), some (.int t), some (.int p)] rfl rfl rfl rfl rfl (trivial) ?_
  refine G_aload_n rfl rfl ?_
  refine H_getR rfl rfl rfl rfl rfl rfl ?_
  refine G_iload_n rfl rfl ?_
  refine H_callV (c1) rfl rfl rfl rfl rfl rfl rfl rfl ?_
  refine G_if_eq rfl (fun h1 => ?_) (fun h1 => ?_)
  · skip
    refine G_iconst rfl ?_
    exact H_ret rfl rfl (rfl) (rfl)
  rw [b2i_n0.mp h1, Bool.true_and] at h
  rw [h] at c2
  refine G_iload_n rfl rfl ?_
  refine H_callS (c2) rfl rfl rfl rfl rfl ?_
  refine G_if_ne rfl (fun h2 => ?_) (fun h2 => ?_)
  · exact absurd rfl h2
  refine G_iconst rfl ?_
  exact H_ret rfl rfl (rfl) (rfl)
set_option maxRecDepth 100000 in
theorem xm_lose (hR : RO R) {n T a p : Nat} (hn : S 3 1 = nI n) (hn4 : n ≤ 4) (hT : NT (S 2) T) (ha : a < T) (hp : p < 12) : EvM kX_lose [.ref 0, .int (nI a), .int (nI p)] (mk S R) (some (.int (if hs (S 2) (a * 12 + p) = true then 10 + nI (tAll (upd (S 2) (a * 12 + p) NONE) T) else 3))) (mk (u2 (recS S R n) 2 (if hs (S 2) (a * 12 + p) = true then upd (S 2) (a * 12 + p) NONE else upd (S 2) 98 (S 2 98 + 1))) (recR R n)) := by
  have hq : TQ 1 2 := Or.inl ⟨rfl, rfl⟩
  have hT8 := hT.2.1
  have a8 : a < 8 := by omega
  have c1 := ev_isTape hq S R (nI a)
  rw [tIs_nI hT.1 hT8 ha] at c1
  have c2 := ev_isPoint S R (nI p)
  rw [isPt_nI hp] at c2
  have c3 := ev_record S R hR hn hn4
  have c4 := ev_has hq (recS S R n) (recR R n) (nI a) (nI p)
  rw [tHas_nI a8 hp, rec_ne S R hR hn4 (by decide)] at c4
  have c5 := ev_refuse (recS S R n) (recR R n) 3
  rw [rec_ne S R hR hn4 (by decide)] at c5
  have c6 := ev_put hq (recS S R n) (recR R n) (nI a) (nI p) NONE
  rw [rec_ne S R hR hn4 (by decide), tPut_nI a8 hp] at c6
  have c7 := ev_readings hq (u2 (recS S R n) 2 (upd (S 2) (a * 12 + p) NONE)) (recR R n) (T := T) (by rw [u2_same, upd_ne (by omega)]; exact hT.1) hT.2.1
  rw [u2_same] at c7
  refine EvM_mk [some (.ref 0), some (.int (nI a)), some (.int (nI p))] rfl rfl rfl rfl rfl (trivial) ?_
  refine G_aload_n rfl rfl ?_
  refine H_getR rfl rfl rfl rfl rfl rfl ?_
  refine G_iload_n rfl rfl ?_
  refine H_callV (c1) rfl rfl rfl rfl rfl rfl rfl rfl ?_
  refine G_if_eq rfl (fun h1 => ?_) (fun h1 => ?_)
  · exact absurd h1 (by decide)
  refine G_iload_n rfl rfl ?_
  refine H_callS (c2) rfl rfl rfl rfl rfl ?_
  refine G_if_ne rfl (fun h2 => ?_) (fun h2 => ?_)
  · skip
    refine G_aload_n rfl rfl ?_
    refine H_getR rfl rfl rfl rfl rfl rfl ?_
    refine G_aload_n rfl rfl ?_
    refine H_getR rfl rfl rfl rfl rfl rfl ?_
    refine H_callU (c3) rfl rfl rfl rfl rfl rfl rfl rfl ?_
    refine G_aload_n rfl rfl ?_
    refine H_getR rfl rfl rfl rfl rfl rfl ?_
    refine G_iload_n rfl rfl ?_
    refine G_iload_n rfl rfl ?_
    refine H_callV (c4) rfl rfl rfl rfl rfl rfl rfl rfl ?_
    refine G_if_ne rfl (fun h3 => ?_) (fun h3 => ?_)
    · skip
      rw [if_pos (b2i_n0.mp h3), if_pos (b2i_n0.mp h3)]
      refine G_aload_n rfl rfl ?_
      refine H_getR rfl rfl rfl rfl rfl rfl ?_
      refine G_iload_n rfl rfl ?_
      refine G_iload_n rfl rfl ?_
      refine G_ldc rfl ?_
      refine H_callU (c6) rfl rfl rfl rfl rfl rfl rfl rfl ?_
      refine G_bipush rfl ?_
      refine G_aload_n rfl rfl ?_
      refine H_getR rfl rfl rfl rfl rfl rfl ?_
      refine H_callV (c7) rfl rfl rfl rfl rfl rfl rfl rfl ?_
      refine G_iadd rfl ?_
      exact H_ret rfl rfl (rfl) (rfl)
    · have h3 := b2i_0.mp (Decidable.of_not_not h3)
      rw [h3, if_neg (by decide), if_neg (by decide)]
      refine G_aload_n rfl rfl ?_
      refine G_iconst rfl ?_
      refine H_callV (c5) rfl rfl rfl rfl rfl rfl rfl rfl ?_
      exact H_ret rfl rfl (rfl) (rfl)
  · exact absurd h2 (by decide)
end XM
