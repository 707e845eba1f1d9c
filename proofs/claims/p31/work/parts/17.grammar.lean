/-! grammar: the pad is text 10, its signs are row 11 -/
def gDig (s : Int32) : Bool := decide (¬ s < 48) && decide (¬ 57 < s)
def gFD (s : Int32) : Option Nat := bif gDig s && !decide (s = 48) then some 5 else none
def gNP (s : Int32) : Option Nat := bif decide (s = 44) then some 0 else none
/-- the automaton: states 0 to 7 -/
def gN (st : Nat) (s : Int32) : Option Nat := match st with
  | 0 => bif decide (¬ s < 48) && decide (¬ 55 < s) then some 1 else none
  | 1 => bif decide (¬ s < 97) && decide (¬ 108 < s) then some 2 else none
  | 2 => bif decide (s = 61) then some 3 else none
  | 3 => bif decide (s = 48) then some 7 else (bif decide (s = 45) then some 4 else gFD s)
  | 4 => gFD s
  | 5 => bif gDig s then some 6 else gNP s
  | 6 => bif gDig s then some 7 else gNP s
  | _ => gNP s
def gI (o : Option Nat) : Int32 := match o with
  | none => -1
  | some j => nI j
theorem gN_le {st : Nat} {s : Int32} {j : Nat} (h : gN st s = some j) : j ≤ 7 := by
  have c : ∀ (b : Bool) (x j : Nat) (o : Option Nat), (bif b then some x else o) = some j → x ≤ 7 → (∀ j, o = some j → j ≤ 7) → j ≤ 7 := by
    intro b x j o h hx ho
    cases b with
    | true => cases h; exact hx
    | false => exact ho j h
  have hn : ∀ j, (none : Option Nat) = some j → j ≤ 7 := fun j h => by cases h
  have hF : ∀ j, gFD s = some j → j ≤ 7 := fun j h => c _ _ _ _ h (by decide) hn
  have hP : ∀ j, gNP s = some j → j ≤ 7 := fun j h => c _ _ _ _ h (by decide) hn
  unfold gN at h
  split at h
  · exact c _ _ _ _ h (by decide) hn
  · exact c _ _ _ _ h (by decide) hn
  · exact c _ _ _ _ h (by decide) hn
  · exact c _ _ _ _ h (by decide) (fun j h => c _ _ _ _ h (by decide) hF)
  · exact hF _ h
  · exact c _ _ _ _ h (by decide) hP
  · exact c _ _ _ _ h (by decide) hP
  · exact hP _ h
section GR
variable (S : Nat → Nat → Int32) (R : Nat → Nat)
set_option maxRecDepth 100000 in
theorem ev_isDigit (s : Int32) : EvM kGrammar_isDigit [.int s] (mk S R) (some (.int (b2i (gDig s)))) (mk S R) := by
  refine EvM_mk [some (.int s)] rfl rfl rfl rfl rfl (okb _) ?_
  refine G_iload_n rfl rfl ?_
  refine G_bipush rfl ?_
  refine G_icmp_lt rfl (fun h1 => ?_) (fun h1 => ?_)
  · skip
    refine G_iconst rfl ?_
    exact H_ret rfl rfl ((by simp [gDig, h1, b2i])) (rfl)
  refine G_iload_n rfl rfl ?_
  refine G_bipush rfl ?_
  refine G_icmp_gt rfl (fun h2 => ?_) (fun h2 => ?_)
  · skip
    refine G_iconst rfl ?_
    exact H_ret rfl rfl ((by simp [gDig, h2, b2i])) (rfl)
  refine G_iconst rfl ?_
  refine G_goto rfl ?_
  exact H_ret rfl rfl ((by simp [gDig, h1, h2, b2i])) (rfl)
set_option maxRecDepth 100000 in
theorem ev_firstDigit (s : Int32) : EvM kGrammar_firstDigit [.int s] (mk S R) (some (.int (gI (gFD s)))) (mk S R) := by
  have hd := ev_isDigit S R s
  refine EvM_mk [some (.int s)] rfl rfl rfl rfl rfl (trivial) ?_
  refine G_iload_n rfl rfl ?_
  refine H_callS (hd) rfl rfl rfl rfl rfl ?_
  refine G_if_eq rfl (fun h1 => ?_) (fun h1 => ?_)
  · skip
    refine G_iconst rfl ?_
    exact H_ret rfl rfl ((by simp [gFD, b2i_0.mp h1, gI])) (rfl)
  have h1 := b2i_n0.mp h1
  refine G_iload_n rfl rfl ?_
  refine G_bipush rfl ?_
  refine G_icmp_eq rfl (fun h2 => ?_) (fun h2 => ?_)
  · skip
    refine G_iconst rfl ?_
    exact H_ret rfl rfl ((by simp [gFD, h2, gI])) (rfl)
  refine G_iconst rfl ?_
  refine G_goto rfl ?_
  exact H_ret rfl rfl ((by simp [gFD, h1, h2, gI]; rfl)) (rfl)
set_option maxRecDepth 100000 in
theorem ev_nextPart (s : Int32) : EvM kGrammar_nextPart [.int s] (mk S R) (some (.int (gI (gNP s)))) (mk S R) := by
  refine EvM_mk [some (.int s)] rfl rfl rfl rfl rfl (trivial) ?_
  refine G_iload_n rfl rfl ?_
  refine G_bipush rfl ?_
  refine G_icmp_ne rfl (fun h1 => ?_) (fun h1 => ?_)
  · skip
    refine G_iconst rfl ?_
    exact H_ret rfl rfl ((by simp [gNP, h1, gI])) (rfl)
  · have h1 := Decidable.of_not_not h1
    refine G_iconst rfl ?_
    refine G_goto rfl ?_
    exact H_ret rfl rfl ((by simp [gNP, h1, gI]; rfl)) (rfl)
set_option maxRecDepth 100000 in
theorem ev_stateAfter {st : Nat} (hst : st ≤ 7) (s : Int32) : EvM kGrammar_stateAfter [.int (nI st), .int s] (mk S R) (some (.int (gI (gN st s)))) (mk S R) := by
  have hd := ev_isDigit S R s
  have hf := ev_firstDigit S R s
  have hp := ev_nextPart S R s
  have hs : ∀ {j : Nat}, j ≤ 7 → nI st = nI j → st = j := fun hj h => (nI_eq (by omega) (by omega)).mp h
  refine EvM_mk [some (.int (nI st)), some (.int s)] rfl rfl rfl rfl rfl (trivial) ?_
  refine G_iload_n rfl rfl ?_
  refine G_switch rfl rfl rfl (And.intro (fun h => ?_) (And.intro (fun h => ?_) (And.intro (fun h => ?_) (And.intro (fun h => ?_) (And.intro (fun h => ?_) (And.intro (fun h => ?_) (And.intro (fun h => ?_) trivial))))))) (fun h => ?_)
  · obtain rfl := hs (by decide) h
    refine G_iload_n rfl rfl ?_
    refine G_bipush rfl ?_
    refine G_icmp_lt rfl (fun h1 => ?_) (fun h1 => ?_)
    · skip
      refine G_iconst rfl ?_
      exact H_ret rfl rfl ((by simp [gN, h1, gI])) (rfl)
    refine G_iload_n rfl rfl ?_
    refine G_bipush rfl ?_
    refine G_icmp_gt rfl (fun h2 => ?_) (fun h2 => ?_)
    · skip
      refine G_iconst rfl ?_
      exact H_ret rfl rfl ((by simp [gN, h2, gI])) (rfl)
    refine G_iconst rfl ?_
    refine G_goto rfl ?_
    exact H_ret rfl rfl ((by simp [gN, h1, h2, gI]; rfl)) (rfl)
  · obtain rfl := hs (by decide) h
    refine G_iload_n rfl rfl ?_
    refine G_bipush rfl ?_
    refine G_icmp_lt rfl (fun h1 => ?_) (fun h1 => ?_)
    · skip
      refine G_iconst rfl ?_
      exact H_ret rfl rfl ((by simp [gN, h1, gI])) (rfl)
    refine G_iload_n rfl rfl ?_
    refine G_bipush rfl ?_
    refine G_icmp_gt rfl (fun h2 => ?_) (fun h2 => ?_)
    · skip
      refine G_iconst rfl ?_
      exact H_ret rfl rfl ((by simp [gN, h2, gI])) (rfl)
    refine G_iconst rfl ?_
    refine G_goto rfl ?_
    exact H_ret rfl rfl ((by simp [gN, h1, h2, gI]; rfl)) (rfl)
  · obtain rfl := hs (by decide) h
    refine G_iload_n rfl rfl ?_
    refine G_bipush rfl ?_
    refine G_icmp_ne rfl (fun h1 => ?_) (fun h1 => ?_)
    · skip
      refine G_iconst rfl ?_
      exact H_ret rfl rfl ((by simp [gN, h1, gI])) (rfl)
    · have h1 := Decidable.of_not_not h1
      refine G_iconst rfl ?_
      refine G_goto rfl ?_
      exact H_ret rfl rfl ((by simp [gN, h1, gI]; rfl)) (rfl)
  · obtain rfl := hs (by decide) h
    refine G_iload_n rfl rfl ?_
    refine G_bipush rfl ?_
    refine G_icmp_ne rfl (fun h1 => ?_) (fun h1 => ?_)
    · skip
      refine G_iload_n rfl rfl ?_
      refine G_bipush rfl ?_
      refine G_icmp_ne rfl (fun h2 => ?_) (fun h2 => ?_)
      · skip
        refine G_iload_n rfl rfl ?_
        refine H_callS (hf) rfl rfl rfl rfl rfl ?_
        exact H_ret rfl rfl ((by simp [gN, h1, h2])) (rfl)
      · have h2 := Decidable.of_not_not h2
        refine G_iconst rfl ?_
        refine G_goto rfl ?_
        exact H_ret rfl rfl ((by simp [gN, h2, gI]; rfl)) (rfl)
    · have h1 := Decidable.of_not_not h1
      refine G_bipush rfl ?_
      refine G_goto rfl ?_
      exact H_ret rfl rfl ((by simp [gN, h1, gI]; rfl)) (rfl)
  · obtain rfl := hs (by decide) h
    refine G_iload_n rfl rfl ?_
    refine H_callS (hf) rfl rfl rfl rfl rfl ?_
    exact H_ret rfl rfl (rfl) (rfl)
  · obtain rfl := hs (by decide) h
    refine G_iload_n rfl rfl ?_
    refine H_callS (hd) rfl rfl rfl rfl rfl ?_
    refine G_if_eq rfl (fun h1 => ?_) (fun h1 => ?_)
    · skip
      refine G_iload_n rfl rfl ?_
      refine H_callS (hp) rfl rfl rfl rfl rfl ?_
      exact H_ret rfl rfl ((by simp [gN, b2i_0.mp h1])) (rfl)
    · have h1 := b2i_n0.mp h1
      refine G_bipush rfl ?_
      refine G_goto rfl ?_
      exact H_ret rfl rfl ((by simp [gN, h1, gI]; rfl)) (rfl)
  · obtain rfl := hs (by decide) h
    refine G_iload_n rfl rfl ?_
    refine H_callS (hd) rfl rfl rfl rfl rfl ?_
    refine G_if_eq rfl (fun h1 => ?_) (fun h1 => ?_)
    · skip
      refine G_iload_n rfl rfl ?_
      refine H_callS (hp) rfl rfl rfl rfl rfl ?_
      exact H_ret rfl rfl ((by simp [gN, b2i_0.mp h1])) (rfl)
    · have h1 := b2i_n0.mp h1
      refine G_bipush rfl ?_
      refine G_goto rfl ?_
      exact H_ret rfl rfl ((by simp [gN, h1, gI]; rfl)) (rfl)
  · have h7 : st = 7 := by
      have := nI_toInt (show st < 2 ^ 31 by omega)
      have h : (nI st).toInt < 0 ∨ 6 < (nI st).toInt := h
      omega
    subst h7
    refine G_iload_n rfl rfl ?_
    refine H_callS (hp) rfl rfl rfl rfl rfl ?_
    exact H_ret rfl rfl (rfl) (rfl)
/-- the first fault, from place i on in the state s, d signs to go of n -/
def gF (f : Nat → Int32) (n : Nat) : Nat → Nat → Nat → Int32
  | 0, _, s => if 5 ≤ s then -4 else nI n
  | d + 1, i, s => match gN s (f i) with
    | none => nI i
    | some s' => gF f n d (i + 1) s'
theorem gI_m1 {o : Option Nat} (h : ∀ j, o = some j → j ≤ 7) : gI o = -1 ↔ o = none := by
  cases o with
  | none => exact ⟨fun _ => rfl, fun _ => rfl⟩
  | some j =>
    refine ⟨fun q => ?_, fun q => by cases q⟩
    have hj := h j rfl
    exfalso
    have q : nI j = -1 := q
    have h1 := nI_toInt (show j < 2 ^ 31 by omega)
    rw [q] at h1
    have h2 : (-1 : Int32).toInt = -1 := by decide
    omega
set_option maxRecDepth 100000 in
theorem ev_firstFault {n : Nat} (hn : S 10 1 = nI n) (hc : n ≤ 60) : EvM kGrammar_firstFault [.ref 10] (mk S R) (some (.int (gF (S 11) n n 0 0))) (mk S R) := by
  have hq : XQ 10 11 60 := Or.inl ⟨rfl, rfl, rfl⟩
  have hl := ev_xlen hq S R
  rw [hn] at hl
  refine EvM_mk [some (.ref 10), none, none] rfl rfl rfl rfl rfl (trivial) ?_
  refine G_iconst rfl ?_
  refine H_ist_3_1 rfl rfl ?_
  refine G_iconst rfl ?_
  refine H_ist_3_2 rfl rfl ?_
  have goal : ∀ d i s, i + d = n → s ≤ 7 → Gm kGrammar_firstFault 4 [some (.ref 10), some (.int (nI s)), some (.int (nI i))] [] (S, PF R, 24) (some (.int (gF (S 11) n d i s))) (S, PF R, 24) := by
    intro d
    induction d with
    | zero =>
      intro i s hi hs
      refine G_iload_n rfl rfl ?_
      refine G_aload_n rfl rfl ?_
      refine H_callV (hl) rfl rfl rfl rfl rfl rfl rfl rfl ?_
      refine G_icmp_ge rfl (fun h => ?_) (fun h => ?_)
      · skip
        refine G_iload_n rfl rfl ?_
        refine G_iconst rfl ?_
        refine G_icmp_lt rfl (fun h5 => ?_) (fun h5 => ?_)
        · skip
          refine G_aload_n rfl rfl ?_
          refine H_callV (hl) rfl rfl rfl rfl rfl rfl rfl rfl ?_
          exact H_ret rfl rfl ((by rw [gF, if_neg (fun q => absurd h5 (nI_nlt (b := 5) q (by omega)))])) (rfl)
        · skip
          refine G_bipush rfl ?_
          refine G_goto rfl ?_
          exact H_ret rfl rfl ((by rw [gF, if_pos (Decidable.byContradiction fun q => h5 (nI_lt (b := 5) (by omega) (by decide)))])) (rfl)
      · exact absurd (nI_le (by omega) (by omega)) h
    | succ d ih =>
      intro i s hi hs
      refine G_iload_n rfl rfl ?_
      refine G_aload_n rfl rfl ?_
      refine H_callV (hl) rfl rfl rfl rfl rfl rfl rfl rfl ?_
      refine G_icmp_ge rfl (fun h => ?_) (fun h => ?_)
      · exact absurd h (ge_no (by omega) (by omega))
      refine G_iload_n rfl rfl ?_
      refine G_aload_n rfl rfl ?_
      refine G_iload_n rfl rfl ?_
      refine H_callV (ev_xat hq S R hn hc (nI i)) rfl rfl rfl rfl rfl rfl rfl rfl ?_
      rw [tx_in (by omega) (by omega)]
      refine H_callS (ev_stateAfter S R hs (S 11 i)) rfl rfl rfl rfl rfl ?_
      refine H_ist_3_1 rfl rfl ?_
      refine G_iload_n rfl rfl ?_
      refine G_iconst rfl ?_
      refine G_icmp_ne rfl (fun h1 => ?_) (fun h1 => ?_)
      · cases hg : gN s (S 11 i) with
        | none => exact absurd ((gI_m1 (fun j hj => by rw [hg] at hj; cases hj)).mpr hg) (by rw [hg] at h1; rw [hg]; exact h1)
        | some s' =>
          have := ih (i + 1) s' (by omega) (gN_le hg)
          refine H_inc_3_2 rfl rfl ?_
          refine G_goto rfl ?_
          rw [gF, hg]
          rw [nI_succ] at this
          exact this
      · have h1 := (gI_m1 (fun j hj => gN_le hj)).mp (Decidable.of_not_not h1)
        refine G_iload_n rfl rfl ?_
        exact H_ret rfl rfl ((by rw [gF, h1])) (rfl)
  exact goal n 0 0 (by omega) (by decide)
set_option maxRecDepth 100000 in
theorem ev_parts {n : Nat} (hn : S 10 1 = nI n) (hc : n ≤ 60) : EvM kGrammar_parts [.ref 10] (mk S R) (some (.int (nI (1 + cnt (fun i => decide (S 11 i = 44)) n)))) (mk S R) := by
  have hq : XQ 10 11 60 := Or.inl ⟨rfl, rfl, rfl⟩
  have hl := ev_xlen hq S R
  rw [hn] at hl
  refine EvM_mk [some (.ref 10), none, none] rfl rfl rfl rfl rfl (trivial) ?_
  refine G_iconst rfl ?_
  refine H_ist_3_1 rfl rfl ?_
  refine G_iconst rfl ?_
  refine H_ist_3_2 rfl rfl ?_
  refine down n (fun i => Gm kGrammar_parts 4 [some (.ref 10), some (.int (nI (1 + cnt (fun i => decide (S 11 i = 44)) i))), some (.int (nI i))] [] (S, PF R, 24) _ _) ?_ (fun i hi ih => ?_)
  · skip
    refine G_iload_n rfl rfl ?_
    refine G_aload_n rfl rfl ?_
    refine H_callV (hl) rfl rfl rfl rfl rfl rfl rfl rfl ?_
    refine G_icmp_ge rfl (fun h => ?_) (fun h => ?_)
    · skip
      refine G_iload_n rfl rfl ?_
      exact H_ret rfl rfl (rfl) (rfl)
    · exact absurd (Int32.le_refl _) h
  · skip
    refine G_iload_n rfl rfl ?_
    refine G_aload_n rfl rfl ?_
    refine H_callV (hl) rfl rfl rfl rfl rfl rfl rfl rfl ?_
    refine G_icmp_ge rfl (fun h => ?_) (fun h => ?_)
    · exact absurd h (ge_no hi (by omega))
    refine G_iload_n rfl rfl ?_
    refine G_aload_n rfl rfl ?_
    refine G_iload_n rfl rfl ?_
    refine H_callV (ev_xat hq S R hn hc (nI i)) rfl rfl rfl rfl rfl rfl rfl rfl ?_
    rw [tx_in (by omega) (by omega)]
    refine G_bipush rfl ?_
    refine G_icmp_ne rfl (fun h1 => ?_) (fun h1 => ?_)
    · skip
      refine G_iconst rfl ?_
      refine G_iadd rfl ?_
      refine H_ist_3_1 rfl rfl ?_
      refine H_inc_3_2 rfl rfl ?_
      refine G_goto rfl ?_
      rw [cnt_f (n := i) (f := fun i => decide (S 11 i = 44)) (decide_eq_false h1), nI_succ i, ← Int32.add_zero (nI (1 + cnt (fun i => decide (S 11 i = 44)) i))] at ih
      exact ih
    · skip
      refine G_iconst rfl ?_
      refine G_goto rfl ?_
      refine G_iadd rfl ?_
      refine H_ist_3_1 rfl rfl ?_
      refine H_inc_3_2 rfl rfl ?_
      refine G_goto rfl ?_
      rw [cnt_t (n := i) (f := fun i => decide (S 11 i = 44)) (decide_eq_true (Decidable.of_not_not h1)), nI_succ i, ← Nat.add_assoc, nI_succ] at ih
      exact ih
/-- where the part k begins: (commas passed, start) behind i signs -/
def sOf (f : Nat → Int32) (k : Nat) : Nat → Nat × Nat
  | 0 => (0, 0)
  | i + 1 => if (sOf f k i).1 < k then (if f i = 44 then ((sOf f k i).1 + 1, i + 1) else sOf f k i) else sOf f k i
theorem sOf_stop {f : Nat → Int32} {k i : Nat} (h : ¬ (sOf f k i).1 < k) : ∀ d, sOf f k (i + d) = sOf f k i
  | 0 => rfl
  | d + 1 => by
    have ih := sOf_stop h d
    show sOf f k ((i + d) + 1) = _
    rw [sOf, ih, if_neg h]
theorem sOf_le (f : Nat → Int32) (k : Nat) : ∀ i, (sOf f k i).1 ≤ k ∧ (sOf f k i).2 ≤ i
  | 0 => ⟨Nat.zero_le _, Nat.le_refl _⟩
  | i + 1 => by
    have ih := sOf_le f k i
    rw [sOf]
    split
    · split
      · exact ⟨by show (sOf f k i).1 + 1 ≤ k; omega, Nat.le_refl _⟩
      · exact ⟨ih.1, by omega⟩
    · exact ⟨ih.1, by omega⟩
set_option maxRecDepth 100000 in
theorem ev_startOf {n : Nat} (hn : S 10 1 = nI n) (hc : n ≤ 60) {k : Nat} (hk : k < 1000) : EvM kGrammar_startOf [.ref 10, .int (nI k)] (mk S R) (some (.int (nI (sOf (S 11) k n).2))) (mk S R) := by
  have hq : XQ 10 11 60 := Or.inl ⟨rfl, rfl, rfl⟩
  have hl := ev_xlen hq S R
  rw [hn] at hl
  refine EvM_mk [some (.ref 10), some (.int (nI k)), none, none, none] rfl rfl rfl rfl rfl (trivial) ?_
  refine G_iconst rfl ?_
  refine H_ist_5_2 rfl rfl ?_
  refine G_iconst rfl ?_
  refine H_ist_5_3 rfl rfl ?_
  refine G_iconst rfl ?_
  refine H_ist_5_4 rfl rfl ?_
  refine down n (fun i => Gm kGrammar_startOf 7 [some (.ref 10), some (.int (nI k)), some (.int (nI (sOf (S 11) k i).2)), some (.int (nI (sOf (S 11) k i).1)), some (.int (nI i))] [] (S, PF R, 24) _ _) ?_ (fun i hi ih => ?_)
  · skip
    refine G_iload rfl rfl ?_
    refine G_aload_n rfl rfl ?_
    refine H_callV (hl) rfl rfl rfl rfl rfl rfl rfl rfl ?_
    refine G_icmp_ge rfl (fun h => ?_) (fun h => ?_)
    · skip
      refine G_iload_n rfl rfl ?_
      exact H_ret rfl rfl (rfl) (rfl)
    · exact absurd (Int32.le_refl _) h
  · have hle := sOf_le (S 11) k i
    refine G_iload rfl rfl ?_
    refine G_aload_n rfl rfl ?_
    refine H_callV (hl) rfl rfl rfl rfl rfl rfl rfl rfl ?_
    refine G_icmp_ge rfl (fun h => ?_) (fun h => ?_)
    · exact absurd h (ge_no hi (by omega))
    refine G_iload_n rfl rfl ?_
    refine G_iload_n rfl rfl ?_
    refine G_icmp_ge rfl (fun h1 => ?_) (fun h1 => ?_)
    · have h2 : ¬ (sOf (S 11) k i).1 < k := fun q => absurd h1 (ge_no q (by omega))
      have h3 := sOf_stop h2 (n - i)
      rw [show i + (n - i) = n by omega] at h3
      refine G_iload_n rfl rfl ?_
      exact H_ret rfl rfl ((by rw [h3])) (rfl)
    · have h2 : (sOf (S 11) k i).1 < k := Decidable.byContradiction fun q => h1 (nI_le (by omega) (by omega))
      refine G_aload_n rfl rfl ?_
      refine G_iload rfl rfl ?_
      refine H_callV (ev_xat hq S R hn hc (nI i)) rfl rfl rfl rfl rfl rfl rfl rfl ?_
      rw [tx_in (by omega) (by omega)]
      refine G_bipush rfl ?_
      refine G_icmp_ne rfl (fun h3 => ?_) (fun h3 => ?_)
      · skip
        refine H_inc_5_4 rfl rfl ?_
        refine G_goto rfl ?_
        rw [sOf, if_pos h2, if_neg h3, nI_succ i] at ih
        exact ih
      · have h3 := Decidable.of_not_not h3
        refine H_inc_5_3 rfl rfl ?_
        refine G_iload rfl rfl ?_
        refine G_iconst rfl ?_
        refine G_iadd rfl ?_
        refine H_ist_5_2 rfl rfl ?_
        refine H_inc_5_4 rfl rfl ?_
        refine G_goto rfl ?_
        rw [sOf, if_pos h2, if_pos h3] at ih
        have ih : Gm kGrammar_startOf 7 [some (.ref 10), some (.int (nI k)), some (.int (nI (i + 1))), some (.int (nI ((sOf (S 11) k i).1 + 1))), some (.int (nI (i + 1)))] [] (S, PF R, 24) (some (.int (nI (sOf (S 11) k n).2))) (S, PF R, 24) := ih
        rw [nI_succ i, nI_succ] at ih
        exact ih
/-- a number's digits from place p on, d signs to go -/
def nvv (f : Nat → Int32) : Nat → Nat → Int32 → Int32
  | 0, _, acc => acc
  | d + 1, p, acc => bif gDig (f p) then nvv f d (p + 1) (acc * 10 + f p - 48) else acc
set_option maxRecDepth 100000 in
theorem ev_numberAt {n : Nat} (hn : S 10 1 = nI n) (hc : n ≤ 60) {s : Nat} (hs : s ≤ n) : EvM kGrammar_numberAt [.ref 10, .int (nI s)] (mk S R) (some (.int (bif decide (tx (S 11) n (nI s) = 45) then -(nvv (S 11) (n - (s + 1)) (s + 1) 0) else nvv (S 11) (n - s) s 0))) (mk S R) := by
  have hq : XQ 10 11 60 := Or.inl ⟨rfl, rfl, rfl⟩
  have hl := ev_xlen hq S R
  rw [hn] at hl
  refine EvM_mk [some (.ref 10), some (.int (nI s)), none, none, none] rfl rfl rfl rfl rfl (trivial) ?_
  have loop : ∀ (b : Int32) (A : Int32) (d p : Nat) (acc : Int32), p + d = n → (∀ x, x = nvv (S 11) d p acc → (b = 0 → A = x) ∧ (¬ b = 0 → A = -x)) → Gm kGrammar_numberAt 31 [some (.ref 10), some (.int (nI s)), some (.int b), some (.int acc), some (.int (nI p))] [] (S, PF R, 24) (some (.int A)) (S, PF R, 24) := by
    intro b A d
    have fin : ∀ acc (p : Nat), (b = 0 → A = acc) ∧ (¬ b = 0 → A = -acc) → Gm kGrammar_numberAt 73 [some (.ref 10), some (.int (nI s)), some (.int b), some (.int acc), some (.int (nI p))] [] (S, PF R, 24) (some (.int A)) (S, PF R, 24) := fun acc p hA => by
      refine G_iload_n rfl rfl ?_
      refine G_if_eq rfl (fun h => ?_) (fun h => ?_)
      · skip
        refine G_iload_n rfl rfl ?_
        exact H_ret rfl rfl ((hA.1 h).symm) (rfl)
      · skip
        refine G_iload_n rfl rfl ?_
        refine G_ineg rfl ?_
        refine G_goto rfl ?_
        exact H_ret rfl rfl ((hA.2 h).symm) (rfl)
    induction d with
    | zero =>
      intro p acc hp hA
      refine G_iload rfl rfl ?_
      refine G_aload_n rfl rfl ?_
      refine H_callV (hl) rfl rfl rfl rfl rfl rfl rfl rfl ?_
      refine G_icmp_ge rfl (fun h => ?_) (fun h => ?_)
      · exact fin acc p (hA acc rfl)
      · exact absurd (nI_le (by omega) (by omega)) h
    | succ d ih =>
      intro p acc hp hA
      refine G_iload rfl rfl ?_
      refine G_aload_n rfl rfl ?_
      refine H_callV (hl) rfl rfl rfl rfl rfl rfl rfl rfl ?_
      refine G_icmp_ge rfl (fun h => ?_) (fun h => ?_)
      · exact absurd h (ge_no (by omega) (by omega))
      refine G_aload_n rfl rfl ?_
      refine G_iload rfl rfl ?_
      refine H_callV (ev_xat hq S R hn hc (nI p)) rfl rfl rfl rfl rfl rfl rfl rfl ?_
      rw [tx_in (by omega) (by omega)]
      refine H_callS (ev_isDigit S R (S 11 p)) rfl rfl rfl rfl rfl ?_
      refine G_if_eq rfl (fun h1 => ?_) (fun h1 => ?_)
      · exact fin acc p (hA acc (by rw [nvv, b2i_0.mp h1, cond_false]))
      · have h1 := b2i_n0.mp h1
        refine G_iload_n rfl rfl ?_
        refine G_bipush rfl ?_
        refine G_imul rfl ?_
        refine G_aload_n rfl rfl ?_
        refine G_iload rfl rfl ?_
        refine H_callV (ev_xat hq S R hn hc (nI p)) rfl rfl rfl rfl rfl rfl rfl rfl ?_
        rw [tx_in (by omega) (by omega)]
        refine G_iadd rfl ?_
        refine G_bipush rfl ?_
        refine G_isub rfl ?_
        refine H_ist_5_3 rfl rfl ?_
        refine H_inc_5_4 rfl rfl ?_
        refine G_goto rfl ?_
        rw [← nI_succ]
        exact ih (p + 1) _ (by omega) (fun x hx => hA x (by rw [nvv, h1, cond_true]; exact hx))
  refine G_aload_n rfl rfl ?_
  refine G_iload_n rfl rfl ?_
  refine H_callV (ev_xat hq S R hn hc (nI s)) rfl rfl rfl rfl rfl rfl rfl rfl ?_
  refine G_bipush rfl ?_
  refine G_icmp_ne rfl (fun h1 => ?_) (fun h1 => ?_)
  · skip
    refine G_iconst rfl ?_
    refine H_ist_5_2 rfl rfl ?_
    refine G_iconst rfl ?_
    refine H_ist_5_3 rfl rfl ?_
    refine G_iload_n rfl rfl ?_
    refine G_if_eq rfl (fun h2 => ?_) (fun h2 => ?_)
    · skip
      refine G_iload_n rfl rfl ?_
      refine H_ist_5_4 rfl rfl ?_
      refine loop 0 _ (n - s) s 0 (by omega) (fun x hx => ⟨fun _ => ?_, fun q => absurd rfl q⟩)
      rw [decide_eq_false h1, cond_false, hx]
    · exact absurd rfl h2
  · have h1 := Decidable.of_not_not h1
    have hlt : s < n := Decidable.byContradiction fun q => by
      rw [tx_out (by omega) (by omega)] at h1
      exact absurd h1 (by decide)
    refine G_iconst rfl ?_
    refine G_goto rfl ?_
    refine H_ist_5_2 rfl rfl ?_
    refine G_iconst rfl ?_
    refine H_ist_5_3 rfl rfl ?_
    refine G_iload_n rfl rfl ?_
    refine G_if_eq rfl (fun h2 => ?_) (fun h2 => ?_)
    · exact absurd h2 (by decide)
    · skip
      refine G_iload_n rfl rfl ?_
      refine G_iconst rfl ?_
      refine G_iadd rfl ?_
      refine G_goto rfl ?_
      refine H_ist_5_4 rfl rfl ?_
      rw [← nI_succ]
      refine loop 1 _ (n - (s + 1)) (s + 1) 0 (by omega) (fun x hx => ⟨fun q => absurd q (by decide), fun _ => ?_⟩)
      rw [decide_eq_true h1, cond_true, hx]
end GR
