/-! the deeds: read, shift, cut, glue -/
def XF (S : Nat → Nat → Int32) (R : Nat → Nat) (n : Nat) (S1 : Nat → Nat → Int32) (row : Nat → Int32) : Prop := S1 2 = row ∧ ∀ i, i ∉ scr → i ≠ 2 → S1 i = recS S R n i
theorem XF_u {S : Nat → Nat → Int32} {R : Nat → Nat} {n : Nat} {row : Nat → Int32} : XF S R n (u2 (recS S R n) 2 row) row := ⟨u2_same, fun i _ h2 => u2_ne h2⟩
def shS (X : Nat → Int32) (a : Nat) (dx : Int32) (i : Nat) : Nat → Int32 := bif hs X (a * 12 + i) then upd X (a * 12 + i) (X (a * 12 + i) + dx) else X
def shR (row : Nat → Int32) (a : Nat) (dx : Int32) : Nat → Nat → Int32
  | 0 => row
  | i + 1 => shS (shR row a dx i) a dx i
theorem shR_ge (row : Nat → Int32) (a : Nat) (dx : Int32) : ∀ i j, ¬ (a * 12 ≤ j ∧ j < a * 12 + i) → shR row a dx i j = row j
  | 0, _, _ => rfl
  | i + 1, j, h => by
    have ih := shR_ge row a dx i j (by omega)
    rw [shR, shS]
    cases hs (shR row a dx i) (a * 12 + i) with
    | false => exact ih
    | true => rw [cond_true, upd_ne (by omega)]; exact ih
section XM2
variable (S : Nat → Nat → Int32) (R : Nat → Nat)
set_option maxRecDepth 100000 in
theorem xm_read0 {T : Nat} (hT : NT (S 2) T) {t p x : Int32} (h : ¬ (rdOK (S 2) t p x = true ∧ tAll (S 2) T < 40)) : EvM kX_read [.ref 0, .int t, .int p, .int x] (mk S R) (some (.int (if rdOK (S 2) t p x = true then -3 else -1))) (mk S R) := by
  have c1 := ev_errorOf S R hT.1 hT.2.1 t p x
  cases h1 : rdOK (S 2) t p x with
  | false =>
    rw [if_neg (by decide)]
    rw [h1, cond_false] at c1
    refine EvM_mk [some (.ref 0), some (.int t), some (.int p), some (.int x), none] rfl rfl rfl rfl rfl (trivial) ?_
    refine G_aload_n rfl rfl ?_
    refine G_iload_n rfl rfl ?_
    refine G_iload_n rfl rfl ?_
    refine G_iload_n rfl rfl ?_
    refine H_callV (c1) rfl rfl rfl rfl rfl rfl rfl rfl ?_
    refine H_ist_5_4 rfl rfl ?_
    refine G_iload rfl rfl ?_
    refine G_if_eq rfl (fun h2 => ?_) (fun h2 => ?_)
    · exact absurd h2 (by decide)
    refine G_iload rfl rfl ?_
    exact H_ret rfl rfl (rfl) (rfl)
  | true =>
    rw [if_pos rfl]
    rw [h1, cond_true, decide_eq_false (fun q => h ⟨h1, q⟩), cond_false] at c1
    refine EvM_mk [some (.ref 0), some (.int t), some (.int p), some (.int x), none] rfl rfl rfl rfl rfl (trivial) ?_
    refine G_aload_n rfl rfl ?_
    refine G_iload_n rfl rfl ?_
    refine G_iload_n rfl rfl ?_
    refine G_iload_n rfl rfl ?_
    refine H_callV (c1) rfl rfl rfl rfl rfl rfl rfl rfl ?_
    refine H_ist_5_4 rfl rfl ?_
    refine G_iload rfl rfl ?_
    refine G_if_eq rfl (fun h2 => ?_) (fun h2 => ?_)
    · exact absurd h2 (by decide)
    refine G_iload rfl rfl ?_
    exact H_ret rfl rfl (rfl) (rfl)
set_option maxRecDepth 100000 in
theorem xm_read (hR : RO R) {n T a p : Nat} (hn : S 3 1 = nI n) (hn4 : n ≤ 4) (hT : NT (S 2) T) (hπ : ∃ π, Pot (S 2) π) (ha : a < T) (hp : p < 12) {x : Int32} (hx : isNb x = true) (h40 : tAll (S 2) T < 40) : ∃ S1 r row, EvM kX_read [.ref 0, .int (nI a), .int (nI p), .int x] (mk S R) (some (.int r)) (mk S1 (recR R n)) ∧ XF S R n S1 row ∧ EN (S 2) T a p x r row := by
  have e2 := rec_ne S R hR hn4 (i := 2) (by decide)
  have c1 := ev_errorOf S R hT.1 hT.2.1 (nI a) (nI p) x
  have h1 : rdOK (S 2) (nI a) (nI p) x = true := by unfold rdOK; rw [tIs_nI hT.1 hT.2.1 ha, isPt_nI hp, hx]; rfl
  rw [h1, cond_true, decide_eq_true h40, cond_true] at c1
  have c2 := ev_record S R hR hn hn4
  obtain ⟨S1, r, c3, fr, en⟩ := ev_enter (recS S R n) (recR R n) (T := T) (by rw [e2]; exact hT) ha hp (by rw [e2]; exact hπ) x
  rw [e2] at en
  refine ⟨S1, r, S1 2, ?_, ⟨rfl, fun i hi h2 => fr i h2 (fun e => hi (by rw [e]; decide)) (fun e => hi (by rw [e]; decide))⟩, en⟩
  refine EvM_mk [some (.ref 0), some (.int (nI a)), some (.int (nI p)), some (.int x), none] rfl rfl rfl rfl rfl (trivial) ?_
  refine G_aload_n rfl rfl ?_
  refine G_iload_n rfl rfl ?_
  refine G_iload_n rfl rfl ?_
  refine G_iload_n rfl rfl ?_
  refine H_callV (c1) rfl rfl rfl rfl rfl rfl rfl rfl ?_
  refine H_ist_5_4 rfl rfl ?_
  refine G_iload rfl rfl ?_
  refine G_if_eq rfl (fun h2 => ?_) (fun h2 => ?_)
  · skip
    refine G_aload_n rfl rfl ?_
    refine H_getR rfl rfl rfl rfl rfl rfl ?_
    refine G_aload_n rfl rfl ?_
    refine H_getR rfl rfl rfl rfl rfl rfl ?_
    refine H_callU (c2) rfl rfl rfl rfl rfl rfl rfl rfl ?_
    refine G_aload_n rfl rfl ?_
    refine G_iload_n rfl rfl ?_
    refine G_iload_n rfl rfl ?_
    refine G_iload_n rfl rfl ?_
    refine H_callV (c3) rfl rfl rfl rfl rfl rfl rfl rfl ?_
    exact H_ret rfl rfl (rfl) (rfl)
  · exact absurd rfl h2
set_option maxRecDepth 100000 in
theorem xm_shift0 {t x : Int32} (h : (tIs (S 2) t && isNb x) = false) : EvM kX_shift [.ref 0, .int t, .int x] (mk S R) (some (.int (-1))) (mk S R) := by
  have hq : TQ 1 2 := Or.inl ⟨rfl, rfl⟩
  have c1 := ev_isTape hq S R t
  have c2 := ev_isNumber S R x
  refine EvM_mk [some (.ref 0), some (.int t), some (.int x), none] rfl rfl rfl rfl rfl (trivial) ?_
  refine G_aload_n rfl rfl ?_
  refine H_getR rfl rfl rfl rfl rfl rfl ?_
  refine G_iload_n rfl rfl ?_
  refine H_callV (c1) rfl rfl rfl rfl rfl rfl rfl rfl ?_
  refine G_if_eq rfl (fun h1 => ?_) (fun h1 => ?_)
  · skip
    refine G_iconst rfl ?_
    exact H_ret rfl rfl (rfl) (rfl)
  rw [b2i_n0.mp h1, Bool.true_and] at h
  rw [h] at c2
  refine G_iload_n rfl rfl ?_
  refine H_callS (c2) rfl rfl rfl rfl rfl ?_
  refine G_if_ne rfl (fun h2 => ?_) (fun h2 => ?_)
  · exact absurd rfl h2
  refine G_iconst rfl ?_
  exact H_ret rfl rfl (rfl) (rfl)
set_option maxRecDepth 100000 in
theorem xm_shift (hR : RO R) {n T a : Nat} (hn : S 3 1 = nI n) (hn4 : n ≤ 4) (hT : NT (S 2) T) (ha : a < T) {x : Int32} (hx : isNb x = true) : EvM kX_shift [.ref 0, .int (nI a), .int x] (mk S R) (some (.int (if cnt (stayB (S 2) a x) 12 = 0 then 10 + nI (tOf (shR (S 2) a x 12) (nI a) 12) else 4))) (mk (u2 (recS S R n) 2 (if cnt (stayB (S 2) a x) 12 = 0 then shR (S 2) a x 12 else upd (S 2) 98 (S 2 98 + 1))) (recR R n)) := by
  have hq : TQ 1 2 := Or.inl ⟨rfl, rfl⟩
  have hT8 := hT.2.1
  have a8 : a < 8 := by omega
  have e2 := rec_ne S R hR hn4 (i := 2) (by decide)
  have c1 := ev_isTape hq S R (nI a)
  rw [tIs_nI hT.1 hT8 ha] at c1
  have c2 := ev_isNumber S R x
  rw [hx] at c2
  have c3 := ev_record S R hR hn hn4
  generalize recS S R n = S1 at *
  generalize recR R n = R1 at *
  have c4 := ev_staysInRange S1 R1 a8 x
  rw [e2] at c4
  by_cases h0 : cnt (stayB (S 2) a x) 12 = 0
  · rw [if_pos h0, if_pos h0]
    rw [decide_eq_true h0] at c4
    have goal : Gm kX_shift 48 [some (.ref 0), some (.int (nI a)), some (.int x), some (.int (nI 0))] [] (u2 S1 2 (shR (S 2) a x 0), PF R1, 24) (some (.int (10 + nI (tOf (shR (S 2) a x 12) (nI a) 12)))) (u2 S1 2 (shR (S 2) a x 12), PF R1, 24) := by
      refine down 12 (fun i => Gm kX_shift 48 [some (.ref 0), some (.int (nI a)), some (.int x), some (.int (nI i))] [] (u2 S1 2 (shR (S 2) a x i), PF R1, 24) (some (.int (10 + nI (tOf (shR (S 2) a x 12) (nI a) 12)))) (u2 S1 2 (shR (S 2) a x 12), PF R1, 24)) ?_ (fun i hi ih => ?_)
      · have c5 := ev_readingsOf hq (u2 S1 2 (shR (S 2) a x 12)) R1 (nI a)
        rw [u2_same] at c5
        refine G_iload_n rfl rfl ?_
        refine G_bipush rfl ?_
        refine G_icmp_ge rfl (fun h => ?_) (fun h => ?_)
        · skip
          refine G_bipush rfl ?_
          refine G_aload_n rfl rfl ?_
          refine H_getR rfl rfl rfl rfl rfl rfl ?_
          refine G_iload_n rfl rfl ?_
          refine H_callV (c5) rfl rfl rfl rfl rfl rfl rfl rfl ?_
          refine G_iadd rfl ?_
          exact H_ret rfl rfl (rfl) (rfl)
        · exact absurd (by decide) h
      · have hh := ev_has hq (u2 S1 2 (shR (S 2) a x i)) R1 (nI a) (nI i)
        have hat := ev_at hq (u2 S1 2 (shR (S 2) a x i)) R1 (nI a) (nI i)
        rw [u2_same, tHas_nI a8 hi] at hh
        rw [u2_same, tAt_nI a8 hi] at hat
        rw [show shR (S 2) a x (i + 1) = shS (shR (S 2) a x i) a x i from rfl] at ih
        generalize shR (S 2) a x i = X at *
        refine G_iload_n rfl rfl ?_
        refine G_bipush rfl ?_
        refine G_icmp_ge rfl (fun h => ?_) (fun h => ?_)
        · exact absurd h (ge_no hi (by decide))
        refine G_aload_n rfl rfl ?_
        refine H_getR rfl rfl rfl rfl rfl rfl ?_
        refine G_iload_n rfl rfl ?_
        refine G_iload_n rfl rfl ?_
        refine H_callV (hh) rfl rfl rfl rfl rfl rfl rfl rfl ?_
        refine G_if_eq rfl (fun h1 => ?_) (fun h1 => ?_)
        · skip
          refine H_inc_4_3 rfl rfl ?_
          refine G_goto rfl ?_
          rw [shS, b2i_0.mp h1, cond_false, nI_succ] at ih
          exact ih
        refine G_aload_n rfl rfl ?_
        refine H_getR rfl rfl rfl rfl rfl rfl ?_
        refine G_iload_n rfl rfl ?_
        refine G_iload_n rfl rfl ?_
        refine G_aload_n rfl rfl ?_
        refine H_getR rfl rfl rfl rfl rfl rfl ?_
        refine G_iload_n rfl rfl ?_
        refine G_iload_n rfl rfl ?_
        refine H_callV (hat) rfl rfl rfl rfl rfl rfl rfl rfl ?_
        refine G_iload_n rfl rfl ?_
        refine G_iadd rfl ?_
        refine H_callU (ev_put hq (u2 S1 2 X) R1 (nI a) (nI i) (X (a * 12 + i) + x)) rfl rfl rfl rfl rfl rfl rfl rfl ?_
        refine H_inc_4_3 rfl rfl ?_
        refine G_goto rfl ?_
        rw [u2_same, u2_u2, tPut_nI a8 hi]
        rw [shS, b2i_n0.mp h1, cond_true, nI_succ] at ih
        exact ih
    rw [show u2 S1 2 (shR (S 2) a x 0) = S1 by rw [shR, ← e2, u2_self]] at goal
    refine EvM_mk [some (.ref 0), some (.int (nI a)), some (.int x), none] rfl rfl rfl rfl rfl (trivial) ?_
    refine G_aload_n rfl rfl ?_
    refine H_getR rfl rfl rfl rfl rfl rfl ?_
    refine G_iload_n rfl rfl ?_
    refine H_callV (c1) rfl rfl rfl rfl rfl rfl rfl rfl ?_
    refine G_if_eq rfl (fun h1 => ?_) (fun h1 => ?_)
    · exact absurd h1 (by decide)
    refine G_iload_n rfl rfl ?_
    refine H_callS (c2) rfl rfl rfl rfl rfl ?_
    refine G_if_ne rfl (fun h2 => ?_) (fun h2 => ?_)
    · skip
      refine G_aload_n rfl rfl ?_
      refine H_getR rfl rfl rfl rfl rfl rfl ?_
      refine G_aload_n rfl rfl ?_
      refine H_getR rfl rfl rfl rfl rfl rfl ?_
      refine H_callU (c3) rfl rfl rfl rfl rfl rfl rfl rfl ?_
      refine G_aload_n rfl rfl ?_
      refine G_iload_n rfl rfl ?_
      refine G_iload_n rfl rfl ?_
      refine H_callV (c4) rfl rfl rfl rfl rfl rfl rfl rfl ?_
      refine G_if_ne rfl (fun h3 => ?_) (fun h3 => ?_)
      · skip
        refine G_iconst rfl ?_
        refine H_ist_4_3 rfl rfl ?_
        exact goal
      · exact absurd h3 (by decide)
    · exact absurd h2 (by decide)
  · rw [if_neg h0, if_neg h0]
    rw [decide_eq_false h0] at c4
    have c5 := ev_refuse S1 R1 4
    rw [e2] at c5
    refine EvM_mk [some (.ref 0), some (.int (nI a)), some (.int x), none] rfl rfl rfl rfl rfl (trivial) ?_
    refine G_aload_n rfl rfl ?_
    refine H_getR rfl rfl rfl rfl rfl rfl ?_
    refine G_iload_n rfl rfl ?_
    refine H_callV (c1) rfl rfl rfl rfl rfl rfl rfl rfl ?_
    refine G_if_eq rfl (fun h1 => ?_) (fun h1 => ?_)
    · exact absurd h1 (by decide)
    refine G_iload_n rfl rfl ?_
    refine H_callS (c2) rfl rfl rfl rfl rfl ?_
    refine G_if_ne rfl (fun h2 => ?_) (fun h2 => ?_)
    · skip
      refine G_aload_n rfl rfl ?_
      refine H_getR rfl rfl rfl rfl rfl rfl ?_
      refine G_aload_n rfl rfl ?_
      refine H_getR rfl rfl rfl rfl rfl rfl ?_
      refine H_callU (c3) rfl rfl rfl rfl rfl rfl rfl rfl ?_
      refine G_aload_n rfl rfl ?_
      refine G_iload_n rfl rfl ?_
      refine G_iload_n rfl rfl ?_
      refine H_callV (c4) rfl rfl rfl rfl rfl rfl rfl rfl ?_
      refine G_if_ne rfl (fun h3 => ?_) (fun h3 => ?_)
      · exact absurd rfl h3
      refine G_aload_n rfl rfl ?_
      refine G_iconst rfl ?_
      refine H_callV (c5) rfl rfl rfl rfl rfl rfl rfl rfl ?_
      exact H_ret rfl rfl (rfl) (rfl)
    · exact absurd h2 (by decide)
set_option maxRecDepth 100000 in
theorem xm_cut0 {t x : Int32} (h : (tIs (S 2) t && isNb x) = false) : EvM kX_cut [.ref 0, .int t, .int x] (mk S R) (some (.int (-1))) (mk S R) := by
  have hq : TQ 1 2 := Or.inl ⟨rfl, rfl⟩
  have c1 := ev_isTape hq S R t
  have c2 := ev_isNumber S R x
  refine EvM_mk [some (.ref 0), some (.int t), some (.int x), none] rfl rfl rfl rfl rfl (trivial) ?_
  refine G_aload_n rfl rfl ?_
  refine H_getR rfl rfl rfl rfl rfl rfl ?_
  refine G_iload_n rfl rfl ?_
  refine H_callV (c1) rfl rfl rfl rfl rfl rfl rfl rfl ?_
  refine G_if_eq rfl (fun h1 => ?_) (fun h1 => ?_)
  · skip
    refine G_iconst rfl ?_
    exact H_ret rfl rfl (rfl) (rfl)
  rw [b2i_n0.mp h1, Bool.true_and] at h
  rw [h] at c2
  refine G_iload_n rfl rfl ?_
  refine H_callS (c2) rfl rfl rfl rfl rfl ?_
  refine G_if_ne rfl (fun h2 => ?_) (fun h2 => ?_)
  · exact absurd rfl h2
  refine G_iconst rfl ?_
  exact H_ret rfl rfl (rfl) (rfl)
set_option maxRecDepth 100000 in
theorem xm_cut8 {T a : Nat} (hT : NT (S 2) T) (ha : a < T) (h8 : ¬ T < 8) {x : Int32} (hx : isNb x = true) : EvM kX_cut [.ref 0, .int (nI a), .int x] (mk S R) (some (.int (-3))) (mk S R) := by
  have hq : TQ 1 2 := Or.inl ⟨rfl, rfl⟩
  have hT8 := hT.2.1
  have c1 := ev_isTape hq S R (nI a)
  rw [tIs_nI hT.1 hT8 ha] at c1
  have c2 := ev_isNumber S R x
  rw [hx] at c2
  have c3 := ev_tapes hq S R
  rw [hT.1] at c3
  refine EvM_mk [some (.ref 0), some (.int (nI a)), some (.int x), none] rfl rfl rfl rfl rfl (trivial) ?_
  refine G_aload_n rfl rfl ?_
  refine H_getR rfl rfl rfl rfl rfl rfl ?_
  refine G_iload_n rfl rfl ?_
  refine H_callV (c1) rfl rfl rfl rfl rfl rfl rfl rfl ?_
  refine G_if_eq rfl (fun h1 => ?_) (fun h1 => ?_)
  · exact absurd h1 (by decide)
  refine G_iload_n rfl rfl ?_
  refine H_callS (c2) rfl rfl rfl rfl rfl ?_
  refine G_if_ne rfl (fun h2 => ?_) (fun h2 => ?_)
  · skip
    refine G_aload_n rfl rfl ?_
    refine H_getR rfl rfl rfl rfl rfl rfl ?_
    refine H_callV (c3) rfl rfl rfl rfl rfl rfl rfl rfl ?_
    refine G_bipush rfl ?_
    refine G_icmp_lt rfl (fun h3 => ?_) (fun h3 => ?_)
    · exact absurd h3 (by rw [show T = 8 by omega]; decide)
    refine G_bipush rfl ?_
    exact H_ret rfl rfl (rfl) (rfl)
  · exact absurd h2 (by decide)
/-- a cut would leave a number too great -/
def ctB (row : Nat → Int32) (a : Nat) (x : Int32) : Prop := ¬ tBest row (nI a) gtI 12 = -4 ∧ ¬ tAt row (nI a) (tBest row (nI a) gtI 12) - x ≤ 999
def ctR (row : Nat → Int32) (T : Nat) : Nat → Int32 := upd (upd row 99 (row 99 + 1)) 96 (nI (T + 1))
set_option maxRecDepth 100000 in
theorem xm_cutR (hR : RO R) {n T a : Nat} (hn : S 3 1 = nI n) (hn4 : n ≤ 4) (hT : NT (S 2) T) (ha : a < T) (h8 : T < 8) {x : Int32} (hx : isNb x = true) (hb : ctB (S 2) a x) : EvM kX_cut [.ref 0, .int (nI a), .int x] (mk S R) (some (.int 4)) (mk (u2 (recS S R n) 2 (upd (S 2) 98 (S 2 98 + 1))) (recR R n)) := by
  have hq : TQ 1 2 := Or.inl ⟨rfl, rfl⟩
  have hT8 := hT.2.1
  have e2 := rec_ne S R hR hn4 (i := 2) (by decide)
  have c1 := ev_isTape hq S R (nI a)
  rw [tIs_nI hT.1 hT8 ha] at c1
  have c2 := ev_isNumber S R x
  rw [hx] at c2
  have c3 := ev_tapes hq S R
  rw [hT.1] at c3
  have c4 := ev_record S R hR hn hn4
  generalize recS S R n = S1 at *
  generalize recR R n = R1 at *
  have c5 := ev_pointOfGreatest hq S1 R1 (nI a)
  rw [e2] at c5
  have c6 := ev_at hq S1 R1 (nI a) (tBest (S 2) (nI a) gtI 12)
  rw [e2] at c6
  have c7 := ev_refuse S1 R1 4
  rw [e2] at c7
  refine EvM_mk [some (.ref 0), some (.int (nI a)), some (.int x), none] rfl rfl rfl rfl rfl (trivial) ?_
  refine G_aload_n rfl rfl ?_
  refine H_getR rfl rfl rfl rfl rfl rfl ?_
  refine G_iload_n rfl rfl ?_
  refine H_callV (c1) rfl rfl rfl rfl rfl rfl rfl rfl ?_
  refine G_if_eq rfl (fun h1 => ?_) (fun h1 => ?_)
  · exact absurd h1 (by decide)
  refine G_iload_n rfl rfl ?_
  refine H_callS (c2) rfl rfl rfl rfl rfl ?_
  refine G_if_ne rfl (fun h2 => ?_) (fun h2 => ?_)
  · skip
    refine G_aload_n rfl rfl ?_
    refine H_getR rfl rfl rfl rfl rfl rfl ?_
    refine H_callV (c3) rfl rfl rfl rfl rfl rfl rfl rfl ?_
    refine G_bipush rfl ?_
    refine G_icmp_lt rfl (fun h3 => ?_) (fun h3 => ?_)
    · skip
      refine G_aload_n rfl rfl ?_
      refine H_getR rfl rfl rfl rfl rfl rfl ?_
      refine G_aload_n rfl rfl ?_
      refine H_getR rfl rfl rfl rfl rfl rfl ?_
      refine H_callU (c4) rfl rfl rfl rfl rfl rfl rfl rfl ?_
      refine G_aload_n rfl rfl ?_
      refine H_getR rfl rfl rfl rfl rfl rfl ?_
      refine G_iload_n rfl rfl ?_
      refine H_callV (c5) rfl rfl rfl rfl rfl rfl rfl rfl ?_
      refine H_ist_4_3 rfl rfl ?_
      refine G_iload_n rfl rfl ?_
      refine G_bipush rfl ?_
      refine G_icmp_eq rfl (fun h4 => ?_) (fun h4 => ?_)
      · exact absurd h4 hb.1
      refine G_aload_n rfl rfl ?_
      refine H_getR rfl rfl rfl rfl rfl rfl ?_
      refine G_iload_n rfl rfl ?_
      refine G_iload_n rfl rfl ?_
      refine H_callV (c6) rfl rfl rfl rfl rfl rfl rfl rfl ?_
      refine G_iload_n rfl rfl ?_
      refine G_isub rfl ?_
      refine G_sipush rfl ?_
      refine G_icmp_le rfl (fun h5 => ?_) (fun h5 => ?_)
      · exact absurd h5 hb.2
      refine G_aload_n rfl rfl ?_
      refine G_iconst rfl ?_
      refine H_callV (c7) rfl rfl rfl rfl rfl rfl rfl rfl ?_
      exact H_ret rfl rfl (rfl) (rfl)
    · exact absurd (nI_lt (b := 8) h8 (by decide)) h3
  · exact absurd h2 (by decide)
set_option maxRecDepth 100000 in
theorem xm_cut (hR : RO R) {n T a : Nat} (hn : S 3 1 = nI n) (hn4 : n ≤ 4) (hT : NT (S 2) T) (ha : a < T) (h8 : T < 8) {x : Int32} (hx : isNb x = true) (hb : ¬ ctB (S 2) a x) : EvM kX_cut [.ref 0, .int (nI a), .int x] (mk S R) (some (.int (10 + nI (mvN (ctR (S 2) T) a T x 12)))) (mk (u2 (recS S R n) 2 (mvR (ctR (S 2) T) a T x 12)) (recR R n)) := by
  have hq : TQ 1 2 := Or.inl ⟨rfl, rfl⟩
  have hT8 := hT.2.1
  have e2 := rec_ne S R hR hn4 (i := 2) (by decide)
  have c1 := ev_isTape hq S R (nI a)
  rw [tIs_nI hT.1 hT8 ha] at c1
  have c2 := ev_isNumber S R x
  rw [hx] at c2
  have c3 := ev_tapes hq S R
  rw [hT.1] at c3
  have c4 := ev_record S R hR hn hn4
  generalize recS S R n = S1 at *
  generalize recR R n = R1 at *
  have c5 := ev_pointOfGreatest hq S1 R1 (nI a)
  rw [e2] at c5
  have c6 := ev_at hq S1 R1 (nI a) (tBest (S 2) (nI a) gtI 12)
  rw [e2] at c6
  have c7 := ev_tally hq S1 R1 (j := 99) (by decide) (by decide)
  rw [e2] at c7
  have c8 := ev_bring hq (u2 S1 2 (upd (S 2) 99 (S 2 99 + 1))) R1
  rw [u2_same, u2_u2, upd_ne (show 96 ≠ 99 by decide), hT.1, ← nI_succ] at c8
  have c9 := ev_moveFrom (u2 S1 2 (ctR (S 2) T)) R1 (a := a) (b := T) (by omega) (by omega) x
  rw [u2_same, u2_u2] at c9
  have tail : Gm kX_cut 84 [some (.ref 0), some (.int (nI a)), some (.int x), some (.int (tBest (S 2) (nI a) gtI 12))] [] (S1, PF R1, 24) (some (.int (10 + nI (mvN (ctR (S 2) T) a T x 12)))) (u2 S1 2 (mvR (ctR (S 2) T) a T x 12), PF R1, 24) := by
    refine G_aload_n rfl rfl ?_
    refine H_getR rfl rfl rfl rfl rfl rfl ?_
    refine G_bipush rfl ?_
    refine H_callU (c7) rfl rfl rfl rfl rfl rfl rfl rfl ?_
    refine G_bipush rfl ?_
    refine G_aload_n rfl rfl ?_
    refine G_iload_n rfl rfl ?_
    refine G_iload_n rfl rfl ?_
    refine G_aload_n rfl rfl ?_
    refine H_getR rfl rfl rfl rfl rfl rfl ?_
    refine H_callV (c8) rfl rfl rfl rfl rfl rfl rfl rfl ?_
    refine H_callV (c9) rfl rfl rfl rfl rfl rfl rfl rfl ?_
    refine G_iadd rfl ?_
    exact H_ret rfl rfl (rfl) (rfl)
  refine EvM_mk [some (.ref 0), some (.int (nI a)), some (.int x), none] rfl rfl rfl rfl rfl (trivial) ?_
  refine G_aload_n rfl rfl ?_
  refine H_getR rfl rfl rfl rfl rfl rfl ?_
  refine G_iload_n rfl rfl ?_
  refine H_callV (c1) rfl rfl rfl rfl rfl rfl rfl rfl ?_
  refine G_if_eq rfl (fun h1 => ?_) (fun h1 => ?_)
  · exact absurd h1 (by decide)
  refine G_iload_n rfl rfl ?_
  refine H_callS (c2) rfl rfl rfl rfl rfl ?_
  refine G_if_ne rfl (fun h2 => ?_) (fun h2 => ?_)
  · skip
    refine G_aload_n rfl rfl ?_
    refine H_getR rfl rfl rfl rfl rfl rfl ?_
    refine H_callV (c3) rfl rfl rfl rfl rfl rfl rfl rfl ?_
    refine G_bipush rfl ?_
    refine G_icmp_lt rfl (fun h3 => ?_) (fun h3 => ?_)
    · skip
      refine G_aload_n rfl rfl ?_
      refine H_getR rfl rfl rfl rfl rfl rfl ?_
      refine G_aload_n rfl rfl ?_
      refine H_getR rfl rfl rfl rfl rfl rfl ?_
      refine H_callU (c4) rfl rfl rfl rfl rfl rfl rfl rfl ?_
      refine G_aload_n rfl rfl ?_
      refine H_getR rfl rfl rfl rfl rfl rfl ?_
      refine G_iload_n rfl rfl ?_
      refine H_callV (c5) rfl rfl rfl rfl rfl rfl rfl rfl ?_
      refine H_ist_4_3 rfl rfl ?_
      refine G_iload_n rfl rfl ?_
      refine G_bipush rfl ?_
      refine G_icmp_eq rfl (fun h4 => ?_) (fun h4 => ?_)
      · exact tail
      refine G_aload_n rfl rfl ?_
      refine H_getR rfl rfl rfl rfl rfl rfl ?_
      refine G_iload_n rfl rfl ?_
      refine G_iload_n rfl rfl ?_
      refine H_callV (c6) rfl rfl rfl rfl rfl rfl rfl rfl ?_
      refine G_iload_n rfl rfl ?_
      refine G_isub rfl ?_
      refine G_sipush rfl ?_
      refine G_icmp_le rfl (fun h5 => ?_) (fun h5 => ?_)
      · exact tail
      · exact absurd ⟨h4, h5⟩ hb
    · exact absurd (nI_lt (b := 8) h8 (by decide)) h3
  · exact absurd h2 (by decide)
set_option maxRecDepth 100000 in
theorem xm_glue0 {t o : Int32} (h : ¬ (tIs (S 2) t = true ∧ tIs (S 2) o = true ∧ t ≠ o)) : EvM kX_glue [.ref 0, .int t, .int o] (mk S R) (some (.int (-1))) (mk S R) := by
  have hq : TQ 1 2 := Or.inl ⟨rfl, rfl⟩
  have c1 := ev_isTape hq S R t
  have c2 := ev_isTape hq S R o
  refine EvM_mk [some (.ref 0), some (.int t), some (.int o), none, none] rfl rfl rfl rfl rfl (trivial) ?_
  refine G_aload_n rfl rfl ?_
  refine H_getR rfl rfl rfl rfl rfl rfl ?_
  refine G_iload_n rfl rfl ?_
  refine H_callV (c1) rfl rfl rfl rfl rfl rfl rfl rfl ?_
  refine G_if_eq rfl (fun h1 => ?_) (fun h1 => ?_)
  · skip
    refine G_iconst rfl ?_
    exact H_ret rfl rfl (rfl) (rfl)
  refine G_aload_n rfl rfl ?_
  refine H_getR rfl rfl rfl rfl rfl rfl ?_
  refine G_iload_n rfl rfl ?_
  refine H_callV (c2) rfl rfl rfl rfl rfl rfl rfl rfl ?_
  refine G_if_eq rfl (fun h2 => ?_) (fun h2 => ?_)
  · skip
    refine G_iconst rfl ?_
    exact H_ret rfl rfl (rfl) (rfl)
  refine G_iload_n rfl rfl ?_
  refine G_iload_n rfl rfl ?_
  refine G_icmp_ne rfl (fun h3 => ?_) (fun h3 => ?_)
  · exact absurd ⟨b2i_n0.mp h1, b2i_n0.mp h2, h3⟩ h
  refine G_iconst rfl ?_
  exact H_ret rfl rfl (rfl) (rfl)
def glB (row π : Nat → Int32) (a b : Nat) : Int32 := π (12 + b) - π (12 + a)
def glX (row : Nat → Int32) (a b : Nat) (dx : Int32) : Nat → Int32 := upd (tRem (cmR row b a dx 12) b) 100 (tRem (cmR row b a dx 12) b 100 + 1)
noncomputable def glA (row π : Nat → Int32) (a b : Nat) : Int32 := bif cB row (12 + a) (12 + b) then (if cnt (stayB row b (glB row π a b)) 12 = 0 then 10 + nI (cmN row b a (glB row π a b) 12) else 4) else 5
noncomputable def glR (row π : Nat → Int32) (a b : Nat) : Nat → Int32 := bif cB row (12 + a) (12 + b) then (if cnt (stayB row b (glB row π a b)) 12 = 0 then glX row a b (glB row π a b) else upd row 98 (row 98 + 1)) else upd row 98 (row 98 + 1)
set_option maxRecDepth 100000 in
theorem xm_glue (hR : RO R) {n T a b : Nat} {π : Nat → Int32} (hn : S 3 1 = nI n) (hn4 : n ≤ 4) (hT : NT (S 2) T) (hπ : Pot (S 2) π) (ha : a < T) (hb : b < T) (hab : a ≠ b) : ∃ S1, EvM kX_glue [.ref 0, .int (nI a), .int (nI b)] (mk S R) (some (.int (glA (S 2) π a b))) (mk S1 (recR R n)) ∧ XF S R n S1 (glR (S 2) π a b) := by
  have hq : TQ 1 2 := Or.inl ⟨rfl, rfl⟩
  have hT8 := hT.2.1
  have a8 : a < 8 := by omega
  have b8 : b < 8 := by omega
  have e2 := rec_ne S R hR hn4 (i := 2) (by decide)
  have c1 := ev_isTape hq S R (nI a)
  rw [tIs_nI hT.1 hT8 ha] at c1
  have c2 := ev_isTape hq S R (nI b)
  rw [tIs_nI hT.1 hT8 hb] at c2
  have c4 := ev_record S R hR hn hn4
  obtain ⟨f, d, c5, hJ⟩ := ev_join (recS S R n) (recR R n) (T := T) (by rw [e2]; exact hT)
  rw [e2] at hJ
  have key : ∀ row, XF S R n (u2 (u2 (u2 (recS S R n) 14 f) 15 d) 2 row) row := fun row => ⟨u2_same, fun i hi h2 => by rw [u2_ne h2, u2_ne (fun e => hi (by rw [e]; decide)), u2_ne (fun e => hi (by rw [e]; decide))]⟩
  refine ⟨u2 (u2 (u2 (recS S R n) 14 f) 15 d) 2 (glR (S 2) π a b), ?_, key _⟩
  have c6 := ev_together (u2 (u2 (recS S R n) 14 f) 15 d) (recR R n) (a := 12 + a) (b := 12 + b) (by omega) (by omega)
  rw [u2_ne (show 14 ≠ 15 by decide), u2_same] at c6
  have c7 := ev_way (u2 (u2 (recS S R n) 14 f) 15 d) (recR R n) (a := 12 + a) (b := 12 + b) (by omega) (by omega)
  rw [u2_same] at c7
  have jc := js_c hJ (x := 12 + a) (y := 12 + b) (by omega) (by omega)
  rw [jc] at c6
  have s2 : u2 (u2 (recS S R n) 14 f) 15 d 2 = S 2 := by rw [u2_ne (by decide), u2_ne (by decide), e2]
  generalize u2 (u2 (recS S R n) 14 f) 15 d = S2 at *
  generalize recS S R n = S1 at *
  generalize recR R n = R1 at *
  rw [← nI_add, ← nI_add] at c6 c7
  unfold glA glR
  have r5 := ev_refuse S2 R1 5
  have r4 := ev_refuse S2 R1 4
  rw [s2] at r5 r4
  cases hc : cB (S 2) (12 + a) (12 + b) with
  | false =>
    rw [cond_false, cond_false]
    rw [hc] at c6
    refine EvM_mk [some (.ref 0), some (.int (nI a)), some (.int (nI b)), none, none] rfl rfl rfl rfl rfl (trivial) ?_
    refine G_aload_n rfl rfl ?_
    refine H_getR rfl rfl rfl rfl rfl rfl ?_
    refine G_iload_n rfl rfl ?_
    refine H_callV (c1) rfl rfl rfl rfl rfl rfl rfl rfl ?_
    refine G_if_eq rfl (fun h1 => ?_) (fun h1 => ?_)
    · exact absurd h1 (by decide)
    refine G_aload_n rfl rfl ?_
    refine H_getR rfl rfl rfl rfl rfl rfl ?_
    refine G_iload_n rfl rfl ?_
    refine H_callV (c2) rfl rfl rfl rfl rfl rfl rfl rfl ?_
    refine G_if_eq rfl (fun h2 => ?_) (fun h2 => ?_)
    · exact absurd h2 (by decide)
    refine G_iload_n rfl rfl ?_
    refine G_iload_n rfl rfl ?_
    refine G_icmp_ne rfl (fun h3 => ?_) (fun h3 => ?_)
    · skip
      refine G_aload_n rfl rfl ?_
      refine H_getR rfl rfl rfl rfl rfl rfl ?_
      refine G_aload_n rfl rfl ?_
      refine H_getR rfl rfl rfl rfl rfl rfl ?_
      refine H_callU (c4) rfl rfl rfl rfl rfl rfl rfl rfl ?_
      refine G_aload_n rfl rfl ?_
      refine H_getR rfl rfl rfl rfl rfl rfl ?_
      refine G_aload_n rfl rfl ?_
      refine H_getR rfl rfl rfl rfl rfl rfl ?_
      refine H_callU (c5) rfl rfl rfl rfl rfl rfl rfl rfl ?_
      refine G_aload_n rfl rfl ?_
      refine H_getR rfl rfl rfl rfl rfl rfl ?_
      refine G_bipush rfl ?_
      refine G_iload_n rfl rfl ?_
      refine G_iadd rfl ?_
      refine G_bipush rfl ?_
      refine G_iload_n rfl rfl ?_
      refine G_iadd rfl ?_
      refine H_callV (c6) rfl rfl rfl rfl rfl rfl rfl rfl ?_
      refine G_if_ne rfl (fun h4 => ?_) (fun h4 => ?_)
      · exact absurd rfl h4
      refine G_aload_n rfl rfl ?_
      refine G_iconst rfl ?_
      refine H_callV (r5) rfl rfl rfl rfl rfl rfl rfl rfl ?_
      exact H_ret rfl rfl (rfl) (rfl)
    · exact absurd ((nI_eq (show a < 2 ^ 31 by omega) (show b < 2 ^ 31 by omega)).mp (Decidable.of_not_not h3)) hab
  | true =>
    rw [cond_true, cond_true]
    rw [hc] at jc c6
    rw [js_d hJ hπ (x := 12 + a) (y := 12 + b) (by omega) (by omega) (of_decide_eq_true jc)] at c7
    rw [show π (12 + b) - π (12 + a) = glB (S 2) π a b from rfl] at c7
    generalize glB (S 2) π a b = dx at *
    have c8 := ev_staysInRange S2 R1 b8 dx
    rw [s2] at c8
    by_cases h0 : cnt (stayB (S 2) b dx) 12 = 0
    · rw [if_pos h0, if_pos h0]
      rw [decide_eq_true h0] at c8
      have c9 := ev_copyMissing S2 R1 a8 b8 dx
      rw [s2] at c9
      have d1 := ev_remove (u2 S2 2 (cmR (S 2) b a dx 12)) R1 b8
      rw [u2_same, u2_u2] at d1
      have d2 := ev_tally hq (u2 S2 2 (tRem (cmR (S 2) b a dx 12) b)) R1 (j := 100) (by decide) (by decide)
      rw [u2_same, u2_u2] at d2
      refine EvM_mk [some (.ref 0), some (.int (nI a)), some (.int (nI b)), none, none] rfl rfl rfl rfl rfl (trivial) ?_
      refine G_aload_n rfl rfl ?_
      refine H_getR rfl rfl rfl rfl rfl rfl ?_
      refine G_iload_n rfl rfl ?_
      refine H_callV (c1) rfl rfl rfl rfl rfl rfl rfl rfl ?_
      refine G_if_eq rfl (fun h1 => ?_) (fun h1 => ?_)
      · exact absurd h1 (by decide)
      refine G_aload_n rfl rfl ?_
      refine H_getR rfl rfl rfl rfl rfl rfl ?_
      refine G_iload_n rfl rfl ?_
      refine H_callV (c2) rfl rfl rfl rfl rfl rfl rfl rfl ?_
      refine G_if_eq rfl (fun h2 => ?_) (fun h2 => ?_)
      · exact absurd h2 (by decide)
      refine G_iload_n rfl rfl ?_
      refine G_iload_n rfl rfl ?_
      refine G_icmp_ne rfl (fun h3 => ?_) (fun h3 => ?_)
      · skip
        refine G_aload_n rfl rfl ?_
        refine H_getR rfl rfl rfl rfl rfl rfl ?_
        refine G_aload_n rfl rfl ?_
        refine H_getR rfl rfl rfl rfl rfl rfl ?_
        refine H_callU (c4) rfl rfl rfl rfl rfl rfl rfl rfl ?_
        refine G_aload_n rfl rfl ?_
        refine H_getR rfl rfl rfl rfl rfl rfl ?_
        refine G_aload_n rfl rfl ?_
        refine H_getR rfl rfl rfl rfl rfl rfl ?_
        refine H_callU (c5) rfl rfl rfl rfl rfl rfl rfl rfl ?_
        refine G_aload_n rfl rfl ?_
        refine H_getR rfl rfl rfl rfl rfl rfl ?_
        refine G_bipush rfl ?_
        refine G_iload_n rfl rfl ?_
        refine G_iadd rfl ?_
        refine G_bipush rfl ?_
        refine G_iload_n rfl rfl ?_
        refine G_iadd rfl ?_
        refine H_callV (c6) rfl rfl rfl rfl rfl rfl rfl rfl ?_
        refine G_if_ne rfl (fun h4 => ?_) (fun h4 => ?_)
        · skip
          refine G_aload_n rfl rfl ?_
          refine H_getR rfl rfl rfl rfl rfl rfl ?_
          refine G_bipush rfl ?_
          refine G_iload_n rfl rfl ?_
          refine G_iadd rfl ?_
          refine G_bipush rfl ?_
          refine G_iload_n rfl rfl ?_
          refine G_iadd rfl ?_
          refine H_callV (c7) rfl rfl rfl rfl rfl rfl rfl rfl ?_
          refine H_ist_5_3 rfl rfl ?_
          refine G_aload_n rfl rfl ?_
          refine G_iload_n rfl rfl ?_
          refine G_iload_n rfl rfl ?_
          refine H_callV (c8) rfl rfl rfl rfl rfl rfl rfl rfl ?_
          refine G_if_ne rfl (fun h5 => ?_) (fun h5 => ?_)
          · skip
            refine G_aload_n rfl rfl ?_
            refine G_iload_n rfl rfl ?_
            refine G_iload_n rfl rfl ?_
            refine G_iload_n rfl rfl ?_
            refine H_callV (c9) rfl rfl rfl rfl rfl rfl rfl rfl ?_
            refine H_ist_5_4 rfl rfl ?_
            refine G_aload_n rfl rfl ?_
            refine H_getR rfl rfl rfl rfl rfl rfl ?_
            refine G_iload_n rfl rfl ?_
            refine H_callU (d1) rfl rfl rfl rfl rfl rfl rfl rfl ?_
            refine G_aload_n rfl rfl ?_
            refine H_getR rfl rfl rfl rfl rfl rfl ?_
            refine G_bipush rfl ?_
            refine H_callU (d2) rfl rfl rfl rfl rfl rfl rfl rfl ?_
            refine G_bipush rfl ?_
            refine G_iload rfl rfl ?_
            refine G_iadd rfl ?_
            exact H_ret rfl rfl (rfl) (rfl)
          · exact absurd h5 (by decide)
        · exact absurd h4 (by decide)
      · exact absurd ((nI_eq (show a < 2 ^ 31 by omega) (show b < 2 ^ 31 by omega)).mp (Decidable.of_not_not h3)) hab
    · rw [if_neg h0, if_neg h0]
      rw [decide_eq_false h0] at c8
      refine EvM_mk [some (.ref 0), some (.int (nI a)), some (.int (nI b)), none, none] rfl rfl rfl rfl rfl (trivial) ?_
      refine G_aload_n rfl rfl ?_
      refine H_getR rfl rfl rfl rfl rfl rfl ?_
      refine G_iload_n rfl rfl ?_
      refine H_callV (c1) rfl rfl rfl rfl rfl rfl rfl rfl ?_
      refine G_if_eq rfl (fun h1 => ?_) (fun h1 => ?_)
      · exact absurd h1 (by decide)
      refine G_aload_n rfl rfl ?_
      refine H_getR rfl rfl rfl rfl rfl rfl ?_
      refine G_iload_n rfl rfl ?_
      refine H_callV (c2) rfl rfl rfl rfl rfl rfl rfl rfl ?_
      refine G_if_eq rfl (fun h2 => ?_) (fun h2 => ?_)
      · exact absurd h2 (by decide)
      refine G_iload_n rfl rfl ?_
      refine G_iload_n rfl rfl ?_
      refine G_icmp_ne rfl (fun h3 => ?_) (fun h3 => ?_)
      · skip
        refine G_aload_n rfl rfl ?_
        refine H_getR rfl rfl rfl rfl rfl rfl ?_
        refine G_aload_n rfl rfl ?_
        refine H_getR rfl rfl rfl rfl rfl rfl ?_
        refine H_callU (c4) rfl rfl rfl rfl rfl rfl rfl rfl ?_
        refine G_aload_n rfl rfl ?_
        refine H_getR rfl rfl rfl rfl rfl rfl ?_
        refine G_aload_n rfl rfl ?_
        refine H_getR rfl rfl rfl rfl rfl rfl ?_
        refine H_callU (c5) rfl rfl rfl rfl rfl rfl rfl rfl ?_
        refine G_aload_n rfl rfl ?_
        refine H_getR rfl rfl rfl rfl rfl rfl ?_
        refine G_bipush rfl ?_
        refine G_iload_n rfl rfl ?_
        refine G_iadd rfl ?_
        refine G_bipush rfl ?_
        refine G_iload_n rfl rfl ?_
        refine G_iadd rfl ?_
        refine H_callV (c6) rfl rfl rfl rfl rfl rfl rfl rfl ?_
        refine G_if_ne rfl (fun h4 => ?_) (fun h4 => ?_)
        · skip
          refine G_aload_n rfl rfl ?_
          refine H_getR rfl rfl rfl rfl rfl rfl ?_
          refine G_bipush rfl ?_
          refine G_iload_n rfl rfl ?_
          refine G_iadd rfl ?_
          refine G_bipush rfl ?_
          refine G_iload_n rfl rfl ?_
          refine G_iadd rfl ?_
          refine H_callV (c7) rfl rfl rfl rfl rfl rfl rfl rfl ?_
          refine H_ist_5_3 rfl rfl ?_
          refine G_aload_n rfl rfl ?_
          refine G_iload_n rfl rfl ?_
          refine G_iload_n rfl rfl ?_
          refine H_callV (c8) rfl rfl rfl rfl rfl rfl rfl rfl ?_
          refine G_if_ne rfl (fun h5 => ?_) (fun h5 => ?_)
          · exact absurd rfl h5
          refine G_aload_n rfl rfl ?_
          refine G_iconst rfl ?_
          refine H_callV (r4) rfl rfl rfl rfl rfl rfl rfl rfl ?_
          exact H_ret rfl rfl (rfl) (rfl)
        · exact absurd h4 (by decide)
      · exact absurd ((nI_eq (show a < 2 ^ 31 by omega) (show b < 2 ^ 31 by omega)).mp (Decidable.of_not_not h3)) hab
end XM2
