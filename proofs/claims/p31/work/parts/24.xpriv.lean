/-! LostZeros: parts of deeds -/
def stayB (row : Nat → Int32) (a : Nat) (dx : Int32) (p : Nat) : Bool := hs row (a * 12 + p) && !isNb (row (a * 12 + p) + dx)
def mvP (X : Nat → Int32) (a : Nat) (mark : Int32) (i : Nat) : Bool := hs X (a * 12 + i) && decide (¬ X (a * 12 + i) < mark)
def mvS (X : Nat → Int32) (a b : Nat) (mark : Int32) (i : Nat) : Nat → Int32 := bif mvP X a mark i then upd (upd X (b * 12 + i) (X (a * 12 + i) - mark)) (a * 12 + i) NONE else X
def mvR (row : Nat → Int32) (a b : Nat) (mark : Int32) : Nat → Nat → Int32
  | 0 => row
  | i + 1 => mvS (mvR row a b mark i) a b mark i
def mvN (row : Nat → Int32) (a b : Nat) (mark : Int32) : Nat → Nat
  | 0 => 0
  | i + 1 => mvN row a b mark i + (bif mvP (mvR row a b mark i) a mark i then 1 else 0)
def cmP (X : Nat → Int32) (b a i : Nat) : Bool := hs X (b * 12 + i) && !hs X (a * 12 + i)
def cmS (X : Nat → Int32) (b a : Nat) (dx : Int32) (i : Nat) : Nat → Int32 := bif cmP X b a i then upd X (a * 12 + i) (X (b * 12 + i) + dx) else X
def cmR (row : Nat → Int32) (b a : Nat) (dx : Int32) : Nat → Nat → Int32
  | 0 => row
  | i + 1 => cmS (cmR row b a dx i) b a dx i
def cmN (row : Nat → Int32) (b a : Nat) (dx : Int32) : Nat → Nat
  | 0 => 0
  | i + 1 => cmN row b a dx i + (bif cmP (cmR row b a dx i) b a i then 1 else 0)
section XP
variable (S : Nat → Nat → Int32) (R : Nat → Nat)
set_option maxRecDepth 100000 in
theorem ev_refuse (x : Int32) : EvM kX_refuse [.ref 0, .int x] (mk S R) (some (.int x)) (mk (u2 S 2 (upd (S 2) 98 (S 2 98 + 1))) R) := by
  have hq : TQ 1 2 := Or.inl ⟨rfl, rfl⟩
  have h := ev_tally hq S R (j := 98) (by decide) (by decide)
  refine EvM_mk [some (.ref 0), some (.int x)] rfl rfl rfl rfl rfl (trivial) ?_
  refine G_aload_n rfl rfl ?_
  refine H_getR rfl rfl rfl rfl rfl rfl ?_
  refine G_bipush rfl ?_
  refine H_callU (h) rfl rfl rfl rfl rfl rfl rfl rfl ?_
  refine G_iload_n rfl rfl ?_
  exact H_ret rfl rfl (rfl) (rfl)
set_option maxRecDepth 100000 in
theorem ev_staysInRange {a : Nat} (ha : a < 8) (dx : Int32) : EvM kX_staysInRange [.ref 0, .int (nI a), .int dx] (mk S R) (some (.int (b2i (decide (cnt (stayB (S 2) a dx) 12 = 0))))) (mk S R) := by
  have hq : TQ 1 2 := Or.inl ⟨rfl, rfl⟩
  refine EvM_mk [some (.ref 0), some (.int (nI a)), some (.int dx), none] rfl rfl rfl rfl rfl (okb _) ?_
  refine G_iconst rfl ?_
  refine H_ist_4_3 rfl rfl ?_
  refine down 12 (fun i => (∀ j, j < i → stayB (S 2) a dx j = false) → Gm kX_staysInRange 2 [some (.ref 0), some (.int (nI a)), some (.int dx), some (.int (nI i))] [] (S, PF R, 24) _ _) (fun hall => ?_) (fun i hi ih hall => ?_) (fun j hj => absurd hj (Nat.not_lt_zero j))
  · skip
    refine G_iload_n rfl rfl ?_
    refine G_bipush rfl ?_
    refine G_icmp_ge rfl (fun h => ?_) (fun h => ?_)
    · skip
      refine G_iconst rfl ?_
      exact H_ret rfl rfl ((by rw [decide_eq_true (cnt_0.mpr hall)]; rfl)) (rfl)
    · exact absurd (by decide) h
  · have hh := ev_has hq S R (nI a) (nI i)
    rw [tHas_nI ha hi] at hh
    have hat := ev_at hq S R (nI a) (nI i)
    rw [tAt_nI ha hi] at hat
    have go : stayB (S 2) a dx i = false → Gm kX_staysInRange 39 [some (.ref 0), some (.int (nI a)), some (.int dx), some (.int (nI i))] [] (S, PF R, 24) (some (.int (b2i (decide (cnt (stayB (S 2) a dx) 12 = 0))))) (S, PF R, 24) := fun e => by
      have ih := ih (fun j hj => by
        by_cases ej : j = i
        · rw [ej]; exact e
        · exact hall j (by omega))
      refine H_inc_4_3 rfl rfl ?_
      refine G_goto rfl ?_
      rw [nI_succ] at ih
      exact ih
    refine G_iload_n rfl rfl ?_
    refine G_bipush rfl ?_
    refine G_icmp_ge rfl (fun h => ?_) (fun h => ?_)
    · exact absurd h (ge_no hi (by decide))
    refine G_aload_n rfl rfl ?_
    refine H_getR rfl rfl rfl rfl rfl rfl ?_
    refine G_iload_n rfl rfl ?_
    refine G_iload_n rfl rfl ?_
    refine H_callV (hh) rfl rfl rfl rfl rfl rfl rfl rfl ?_
    refine G_if_eq rfl (fun h1 => ?_) (fun h1 => ?_)
    · exact go (by rw [stayB, b2i_0.mp h1]; rfl)
    have h1 := b2i_n0.mp h1
    refine G_aload_n rfl rfl ?_
    refine H_getR rfl rfl rfl rfl rfl rfl ?_
    refine G_iload_n rfl rfl ?_
    refine G_iload_n rfl rfl ?_
    refine H_callV (hat) rfl rfl rfl rfl rfl rfl rfl rfl ?_
    refine G_iload_n rfl rfl ?_
    refine G_iadd rfl ?_
    refine H_callS (ev_isNumber S R (S 2 (a * 12 + i) + dx)) rfl rfl rfl rfl rfl ?_
    refine G_if_ne rfl (fun h2 => ?_) (fun h2 => ?_)
    · exact go (by rw [stayB, h1, b2i_n0.mp h2]; rfl)
    · have h2 := b2i_0.mp (Decidable.of_not_not h2)
      refine G_iconst rfl ?_
      exact H_ret rfl rfl ((by rw [decide_eq_false (fun q => by have := cnt_0.mp q i hi; rw [stayB, h1, h2] at this; cases this)]; rfl)) (rfl)
set_option maxRecDepth 100000 in
theorem ev_moveFrom {a b : Nat} (ha : a < 8) (hb : b < 8) (mark : Int32) : EvM kX_moveFrom [.ref 0, .int (nI a), .int mark, .int (nI b)] (mk S R) (some (.int (nI (mvN (S 2) a b mark 12)))) (mk (u2 S 2 (mvR (S 2) a b mark 12)) R) := by
  have hq : TQ 1 2 := Or.inl ⟨rfl, rfl⟩
  have hNe : (1000000 : Int32) = NONE := rfl
  refine EvM_mk [some (.ref 0), some (.int (nI a)), some (.int mark), some (.int (nI b)), none, none, none] rfl rfl rfl rfl rfl (trivial) ?_
  refine G_iconst rfl ?_
  refine H_ist_7_4 rfl rfl ?_
  refine G_iconst rfl ?_
  refine H_ist_7_5 rfl rfl ?_
  have goal : Gm kX_moveFrom 6 [some (.ref 0), some (.int (nI a)), some (.int mark), some (.int (nI b)), some (.int (nI 0)), some (.int (nI 0)), none] [] (u2 S 2 (mvR (S 2) a b mark 0), PF R, 24) (some (.int (nI (mvN (S 2) a b mark 12)))) (u2 S 2 (mvR (S 2) a b mark 12), PF R, 24) := by
    refine down 12 (fun i => ∀ l6, Gm kX_moveFrom 6 [some (.ref 0), some (.int (nI a)), some (.int mark), some (.int (nI b)), some (.int (nI (mvN (S 2) a b mark i))), some (.int (nI i)), l6] [] (u2 S 2 (mvR (S 2) a b mark i), PF R, 24) (some (.int (nI (mvN (S 2) a b mark 12)))) (u2 S 2 (mvR (S 2) a b mark 12), PF R, 24)) (fun l6 => ?_) (fun i hi ih l6 => ?_) none
    · skip
      refine G_iload rfl rfl ?_
      refine G_bipush rfl ?_
      refine G_icmp_ge rfl (fun h => ?_) (fun h => ?_)
      · skip
        refine G_iload rfl rfl ?_
        exact H_ret rfl rfl (rfl) (rfl)
      · exact absurd (by decide) h
    · have hat := ev_at hq (u2 S 2 (mvR (S 2) a b mark i)) R (nI a) (nI i)
      rw [u2_same, tAt_nI ha hi] at hat
      rw [show mvN (S 2) a b mark (i + 1) = mvN (S 2) a b mark i + (bif mvP (mvR (S 2) a b mark i) a mark i then 1 else 0) from rfl, show mvR (S 2) a b mark (i + 1) = mvS (mvR (S 2) a b mark i) a b mark i from rfl] at ih
      generalize mvR (S 2) a b mark i = X at *
      generalize mvN (S 2) a b mark i = N at *
      have go : mvP X a mark i = false → ∀ l6, Gm kX_moveFrom 67 [some (.ref 0), some (.int (nI a)), some (.int mark), some (.int (nI b)), some (.int (nI N)), some (.int (nI i)), l6] [] (u2 S 2 X, PF R, 24) (some (.int (nI (mvN (S 2) a b mark 12)))) (u2 S 2 (mvR (S 2) a b mark 12), PF R, 24) := fun e l6 => by
        have ih := ih l6
        refine H_inc_7_5 rfl rfl ?_
        refine G_goto rfl ?_
        rw [mvS, e, cond_false, cond_false, nI_succ] at ih
        exact ih
      refine G_iload rfl rfl ?_
      refine G_bipush rfl ?_
      refine G_icmp_ge rfl (fun h => ?_) (fun h => ?_)
      · exact absurd h (ge_no hi (by decide))
      refine G_aload_n rfl rfl ?_
      refine H_getR rfl rfl rfl rfl rfl rfl ?_
      refine G_iload_n rfl rfl ?_
      refine G_iload rfl rfl ?_
      refine H_callV (hat) rfl rfl rfl rfl rfl rfl rfl rfl ?_
      refine H_ist_7_6 rfl rfl ?_
      refine G_iload rfl rfl ?_
      refine G_ldc rfl ?_
      refine G_icmp_eq rfl (fun h1 => ?_) (fun h1 => ?_)
      · exact go (by rw [hNe] at h1; simp [mvP, hs, h1]) _
      refine G_iload rfl rfl ?_
      refine G_iload_n rfl rfl ?_
      refine G_icmp_lt rfl (fun h2 => ?_) (fun h2 => ?_)
      · exact go (by simp [mvP, h2]) _
      · have hm : mvP X a mark i = true := by rw [hNe] at h1; simp [mvP, hs, h1, h2]
        have ih := ih (some (.int (X (a * 12 + i))))
        refine G_aload_n rfl rfl ?_
        refine H_getR rfl rfl rfl rfl rfl rfl ?_
        refine G_iload_n rfl rfl ?_
        refine G_iload rfl rfl ?_
        refine G_iload rfl rfl ?_
        refine G_iload_n rfl rfl ?_
        refine G_isub rfl ?_
        refine H_callU (ev_put hq (u2 S 2 X) R (nI b) (nI i) (X (a * 12 + i) - mark)) rfl rfl rfl rfl rfl rfl rfl rfl ?_
        refine G_aload_n rfl rfl ?_
        refine H_getR rfl rfl rfl rfl rfl rfl ?_
        refine G_iload_n rfl rfl ?_
        refine G_iload rfl rfl ?_
        refine G_ldc rfl ?_
        refine H_callU (ev_put hq (u2 (u2 S 2 X) 2 (tPut (u2 S 2 X 2) (nI b) (nI i) (X (a * 12 + i) - mark))) R (nI a) (nI i) 1000000) rfl rfl rfl rfl rfl rfl rfl rfl ?_
        refine H_inc_7_4 rfl rfl ?_
        refine H_inc_7_5 rfl rfl ?_
        refine G_goto rfl ?_
        rw [u2_same, u2_u2, u2_u2, u2_same, tPut_nI hb hi, tPut_nI ha hi]
        rw [mvS, hm, cond_true, cond_true, nI_succ, nI_succ] at ih
        exact ih
  rw [show u2 S 2 (mvR (S 2) a b mark 0) = S from u2_self] at goal
  exact goal
set_option maxRecDepth 100000 in
theorem ev_copyMissing {a b : Nat} (ha : a < 8) (hb : b < 8) (dx : Int32) : EvM kX_copyMissing [.ref 0, .int (nI b), .int (nI a), .int dx] (mk S R) (some (.int (nI (cmN (S 2) b a dx 12)))) (mk (u2 S 2 (cmR (S 2) b a dx 12)) R) := by
  have hq : TQ 1 2 := Or.inl ⟨rfl, rfl⟩
  refine EvM_mk [some (.ref 0), some (.int (nI b)), some (.int (nI a)), some (.int dx), none, none] rfl rfl rfl rfl rfl (trivial) ?_
  refine G_iconst rfl ?_
  refine H_ist_6_4 rfl rfl ?_
  refine G_iconst rfl ?_
  refine H_ist_6_5 rfl rfl ?_
  have goal : Gm kX_copyMissing 6 [some (.ref 0), some (.int (nI b)), some (.int (nI a)), some (.int dx), some (.int (nI 0)), some (.int (nI 0))] [] (u2 S 2 (cmR (S 2) b a dx 0), PF R, 24) (some (.int (nI (cmN (S 2) b a dx 12)))) (u2 S 2 (cmR (S 2) b a dx 12), PF R, 24) := by
    refine down 12 (fun i => Gm kX_copyMissing 6 [some (.ref 0), some (.int (nI b)), some (.int (nI a)), some (.int dx), some (.int (nI (cmN (S 2) b a dx i))), some (.int (nI i))] [] (u2 S 2 (cmR (S 2) b a dx i), PF R, 24) (some (.int (nI (cmN (S 2) b a dx 12)))) (u2 S 2 (cmR (S 2) b a dx 12), PF R, 24)) ?_ (fun i hi ih => ?_)
    · skip
      refine G_iload rfl rfl ?_
      refine G_bipush rfl ?_
      refine G_icmp_ge rfl (fun h => ?_) (fun h => ?_)
      · skip
        refine G_iload rfl rfl ?_
        exact H_ret rfl rfl (rfl) (rfl)
      · exact absurd (by decide) h
    · have hh1 := ev_has hq (u2 S 2 (cmR (S 2) b a dx i)) R (nI b) (nI i)
      have hh2 := ev_has hq (u2 S 2 (cmR (S 2) b a dx i)) R (nI a) (nI i)
      have hat := ev_at hq (u2 S 2 (cmR (S 2) b a dx i)) R (nI b) (nI i)
      rw [u2_same, tHas_nI hb hi] at hh1
      rw [u2_same, tHas_nI ha hi] at hh2
      rw [u2_same, tAt_nI hb hi] at hat
      rw [show cmN (S 2) b a dx (i + 1) = cmN (S 2) b a dx i + (bif cmP (cmR (S 2) b a dx i) b a i then 1 else 0) from rfl, show cmR (S 2) b a dx (i + 1) = cmS (cmR (S 2) b a dx i) b a dx i from rfl] at ih
      generalize cmR (S 2) b a dx i = X at *
      generalize cmN (S 2) b a dx i = N at *
      have go : cmP X b a i = false → Gm kX_copyMissing 64 [some (.ref 0), some (.int (nI b)), some (.int (nI a)), some (.int dx), some (.int (nI N)), some (.int (nI i))] [] (u2 S 2 X, PF R, 24) (some (.int (nI (cmN (S 2) b a dx 12)))) (u2 S 2 (cmR (S 2) b a dx 12), PF R, 24) := fun e => by
        refine H_inc_6_5 rfl rfl ?_
        refine G_goto rfl ?_
        rw [cmS, e, cond_false, cond_false, nI_succ] at ih
        exact ih
      refine G_iload rfl rfl ?_
      refine G_bipush rfl ?_
      refine G_icmp_ge rfl (fun h => ?_) (fun h => ?_)
      · exact absurd h (ge_no hi (by decide))
      refine G_aload_n rfl rfl ?_
      refine H_getR rfl rfl rfl rfl rfl rfl ?_
      refine G_iload_n rfl rfl ?_
      refine G_iload rfl rfl ?_
      refine H_callV (hh1) rfl rfl rfl rfl rfl rfl rfl rfl ?_
      refine G_if_eq rfl (fun h1 => ?_) (fun h1 => ?_)
      · exact go (by rw [cmP, b2i_0.mp h1]; rfl)
      have h1 := b2i_n0.mp h1
      refine G_aload_n rfl rfl ?_
      refine H_getR rfl rfl rfl rfl rfl rfl ?_
      refine G_iload_n rfl rfl ?_
      refine G_iload rfl rfl ?_
      refine H_callV (hh2) rfl rfl rfl rfl rfl rfl rfl rfl ?_
      refine G_if_ne rfl (fun h2 => ?_) (fun h2 => ?_)
      · exact go (by rw [cmP, h1, b2i_n0.mp h2]; rfl)
      · have h2 := b2i_0.mp (Decidable.of_not_not h2)
        have hm : cmP X b a i = true := by rw [cmP, h1, h2]; rfl
        refine G_aload_n rfl rfl ?_
        refine H_getR rfl rfl rfl rfl rfl rfl ?_
        refine G_iload_n rfl rfl ?_
        refine G_iload rfl rfl ?_
        refine G_aload_n rfl rfl ?_
        refine H_getR rfl rfl rfl rfl rfl rfl ?_
        refine G_iload_n rfl rfl ?_
        refine G_iload rfl rfl ?_
        refine H_callV (hat) rfl rfl rfl rfl rfl rfl rfl rfl ?_
        refine G_iload_n rfl rfl ?_
        refine G_iadd rfl ?_
        refine H_callU (ev_put hq (u2 S 2 X) R (nI a) (nI i) (X (b * 12 + i) + dx)) rfl rfl rfl rfl rfl rfl rfl rfl ?_
        refine H_inc_6_4 rfl rfl ?_
        refine H_inc_6_5 rfl rfl ?_
        refine G_goto rfl ?_
        rw [u2_same, u2_u2, tPut_nI ha hi]
        rw [cmS, hm, cond_true, cond_true, nI_succ, nI_succ] at ih
        exact ih
  rw [show u2 S 2 (cmR (S 2) b a dx 0) = S from u2_self] at goal
  exact goal
def rdOK (row : Nat → Int32) (t p x : Int32) : Bool := tIs row t && (isPt p && isNb x)
set_option maxRecDepth 100000 in
theorem ev_errorOf {T : Nat} (hT : S 2 96 = nI T) (hT8 : T ≤ 8) (t p x : Int32) : EvM kX_errorOf [.ref 0, .int t, .int p, .int x] (mk S R) (some (.int (bif rdOK (S 2) t p x then (bif decide (tAll (S 2) T < 40) then 0 else -3) else -1))) (mk S R) := by
  have hq : TQ 1 2 := Or.inl ⟨rfl, rfl⟩
  have hle : tAll (S 2) T < 2 ^ 31 := Nat.lt_of_le_of_lt (sm_le (c := 12) (fun i _ => cnt_le _ _)) (by omega)
  refine EvM_mk [some (.ref 0), some (.int t), some (.int p), some (.int x)] rfl rfl rfl rfl rfl (trivial) ?_
  refine G_aload_n rfl rfl ?_
  refine H_getR rfl rfl rfl rfl rfl rfl ?_
  refine G_iload_n rfl rfl ?_
  refine H_callV (ev_isTape hq S R t) rfl rfl rfl rfl rfl rfl rfl rfl ?_
  refine G_if_eq rfl (fun h1 => ?_) (fun h1 => ?_)
  · skip
    refine G_iconst rfl ?_
    exact H_ret rfl rfl ((by rw [rdOK, b2i_0.mp h1]; rfl)) (rfl)
  have h1 := b2i_n0.mp h1
  refine G_iload_n rfl rfl ?_
  refine H_callS (ev_isPoint S R p) rfl rfl rfl rfl rfl ?_
  refine G_if_eq rfl (fun h2 => ?_) (fun h2 => ?_)
  · skip
    refine G_iconst rfl ?_
    exact H_ret rfl rfl ((by rw [rdOK, h1, b2i_0.mp h2]; rfl)) (rfl)
  have h2 := b2i_n0.mp h2
  refine G_iload_n rfl rfl ?_
  refine H_callS (ev_isNumber S R x) rfl rfl rfl rfl rfl ?_
  refine G_if_ne rfl (fun h3 => ?_) (fun h3 => ?_)
  · have h3 := b2i_n0.mp h3
    refine G_aload_n rfl rfl ?_
    refine H_getR rfl rfl rfl rfl rfl rfl ?_
    refine H_callV (ev_readings hq S R hT hT8) rfl rfl rfl rfl rfl rfl rfl rfl ?_
    refine G_bipush rfl ?_
    refine G_icmp_lt rfl (fun h4 => ?_) (fun h4 => ?_)
    · have h4 : tAll (S 2) T < 40 := Decidable.byContradiction fun q => absurd h4 (nI_nlt (b := 40) (by omega) hle)
      refine G_iconst rfl ?_
      exact H_ret rfl rfl ((by rw [rdOK, h1, h2, h3, decide_eq_true h4]; rfl)) (rfl)
    · have h4 : ¬ tAll (S 2) T < 40 := fun q => h4 (nI_lt (b := 40) q (by decide))
      refine G_bipush rfl ?_
      refine G_goto rfl ?_
      exact H_ret rfl rfl ((by rw [rdOK, h1, h2, h3, decide_eq_false h4]; rfl)) (rfl)
  · have h3 := b2i_0.mp (Decidable.of_not_not h3)
    refine G_iconst rfl ?_
    exact H_ret rfl rfl ((by rw [rdOK, h1, h2, h3]; rfl)) (rfl)
/-- why a reading would be refused -/
def RS (row : Nat → Int32) (a p : Nat) (x r : Int32) : Prop := (hs row (a * 12 + p) = true → r = 1) ∧ (hs row (a * 12 + p) = false → (¬ Cn row (12 + a) p → r = 0) ∧ (Cn row (12 + a) p → ∀ π, Pot row π → (π p - π (12 + a) = x → r = 0) ∧ (¬ π p - π (12 + a) = x → r = 2)))
def gFr (S S' : Nat → Nat → Int32) : Prop := ∀ i, i ≠ 14 → i ≠ 15 → S' i = S i
set_option maxRecDepth 100000 in
theorem ev_reasonAgainst {T a p : Nat} (hT : NT (S 2) T) (ha : a < 8) (hp : p < 12) (hπ : ∃ π, Pot (S 2) π) (x : Int32) : ∃ S' r, EvM kX_reasonAgainst [.ref 0, .int (nI a), .int (nI p), .int x] (mk S R) (some (.int r)) (mk S' R) ∧ gFr S S' ∧ RS (S 2) a p x r := by
  have hq : TQ 1 2 := Or.inl ⟨rfl, rfl⟩
  have hh := ev_has hq S R (nI a) (nI p)
  rw [tHas_nI ha hp] at hh
  have e12 : (12 : Int32) + nI a = nI (12 + a) := nI_add 12 a
  cases hb : hs (S 2) (a * 12 + p) with
  | true =>
    refine ⟨S, 1, ?_, fun _ _ _ => rfl, fun _ => rfl, fun q => (by rw [hb] at q; cases q)⟩
    rw [hb] at hh
    refine EvM_mk [some (.ref 0), some (.int (nI a)), some (.int (nI p)), some (.int x), none, none] rfl rfl rfl rfl rfl (trivial) ?_
    refine G_aload_n rfl rfl ?_
    refine H_getR rfl rfl rfl rfl rfl rfl ?_
    refine G_iload_n rfl rfl ?_
    refine G_iload_n rfl rfl ?_
    refine H_callV (hh) rfl rfl rfl rfl rfl rfl rfl rfl ?_
    refine G_if_eq rfl (fun h => ?_) (fun h => ?_)
    · exact absurd h (by decide)
    refine G_iconst rfl ?_
    exact H_ret rfl rfl (rfl) (rfl)
  | false =>
    obtain ⟨f, d, evj, hJ⟩ := ev_join S R hT
    have ht := ev_together (u2 (u2 S 14 f) 15 d) R (a := 12 + a) (b := p) (by omega) (by omega)
    have hw := ev_way (u2 (u2 S 14 f) 15 d) R (a := 12 + a) (b := p) (by omega) (by omega)
    rw [u2_ne (show 14 ≠ 15 by decide), u2_same] at ht
    rw [u2_same] at hw
    have hcn := hJ.1 (12 + a) p (by omega) (by omega)
    have fr : gFr S (u2 (u2 S 14 f) 15 d) := fun i q1 q2 => by rw [u2_ne q2, u2_ne q1]
    obtain ⟨π, hπ⟩ := hπ
    have rs : ∀ r : Int32, (¬ f (12 + a) = f p → r = 0) → (f (12 + a) = f p → (d p - d (12 + a) = x → r = 0) ∧ (¬ d p - d (12 + a) = x → r = 2)) → RS (S 2) a p x r := fun r r1 r2 => by
      refine ⟨fun q => (by rw [hb] at q; cases q), fun _ => ⟨fun q => r1 (fun e => q (hcn.mp e)), fun q ρ hρ => ?_⟩⟩
      have e := hJ.2 ρ hρ (12 + a) p (by omega) (by omega) q
      rw [← e]
      exact r2 (hcn.mpr q)
    rw [hb] at hh
    by_cases h1 : f (12 + a) = f p
    · by_cases h2 : d p - d (12 + a) = x
      · refine ⟨_, 0, ?_, fr, rs 0 (fun q => rfl) (fun _ => ⟨fun _ => rfl, fun q => absurd h2 q⟩)⟩
        refine EvM_mk [some (.ref 0), some (.int (nI a)), some (.int (nI p)), some (.int x), none, none] rfl rfl rfl rfl rfl (trivial) ?_
        refine G_aload_n rfl rfl ?_
        refine H_getR rfl rfl rfl rfl rfl rfl ?_
        refine G_iload_n rfl rfl ?_
        refine G_iload_n rfl rfl ?_
        refine H_callV (hh) rfl rfl rfl rfl rfl rfl rfl rfl ?_
        refine G_if_eq rfl (fun h => ?_) (fun h => ?_)
        · skip
          refine G_aload_n rfl rfl ?_
          refine H_getR rfl rfl rfl rfl rfl rfl ?_
          refine G_aload_n rfl rfl ?_
          refine H_getR rfl rfl rfl rfl rfl rfl ?_
          refine H_callU (evj) rfl rfl rfl rfl rfl rfl rfl rfl ?_
          refine G_bipush rfl ?_
          refine G_iload_n rfl rfl ?_
          refine G_iadd rfl ?_
          refine H_ist_6_4 rfl rfl ?_
          refine G_aload_n rfl rfl ?_
          refine H_getR rfl rfl rfl rfl rfl rfl ?_
          refine G_iload rfl rfl ?_
          refine G_iload_n rfl rfl ?_
          rw [e12]
          refine H_callV (ht) rfl rfl rfl rfl rfl rfl rfl rfl ?_
          refine G_if_eq rfl (fun h3 => ?_) (fun h3 => ?_)
          · exact absurd h3 (by rw [decide_eq_true h1]; decide)
          refine G_aload_n rfl rfl ?_
          refine H_getR rfl rfl rfl rfl rfl rfl ?_
          refine G_iload rfl rfl ?_
          refine G_iload_n rfl rfl ?_
          refine H_callV (hw) rfl rfl rfl rfl rfl rfl rfl rfl ?_
          refine G_iload_n rfl rfl ?_
          refine G_icmp_eq rfl (fun h4 => ?_) (fun h4 => ?_)
          · skip
            refine G_iconst rfl ?_
            refine H_ist_6_5 rfl rfl ?_
            refine G_iload rfl rfl ?_
            refine G_if_eq rfl (fun h5 => ?_) (fun h5 => ?_)
            · skip
              refine G_iconst rfl ?_
              exact H_ret rfl rfl (rfl) (rfl)
            · exact absurd rfl h5
          · exact absurd h2 h4
        · exact absurd rfl h
      · refine ⟨_, 2, ?_, fr, rs 2 (fun q => absurd h1 q) (fun _ => ⟨fun q => absurd q h2, fun _ => rfl⟩)⟩
        refine EvM_mk [some (.ref 0), some (.int (nI a)), some (.int (nI p)), some (.int x), none, none] rfl rfl rfl rfl rfl (trivial) ?_
        refine G_aload_n rfl rfl ?_
        refine H_getR rfl rfl rfl rfl rfl rfl ?_
        refine G_iload_n rfl rfl ?_
        refine G_iload_n rfl rfl ?_
        refine H_callV (hh) rfl rfl rfl rfl rfl rfl rfl rfl ?_
        refine G_if_eq rfl (fun h => ?_) (fun h => ?_)
        · skip
          refine G_aload_n rfl rfl ?_
          refine H_getR rfl rfl rfl rfl rfl rfl ?_
          refine G_aload_n rfl rfl ?_
          refine H_getR rfl rfl rfl rfl rfl rfl ?_
          refine H_callU (evj) rfl rfl rfl rfl rfl rfl rfl rfl ?_
          refine G_bipush rfl ?_
          refine G_iload_n rfl rfl ?_
          refine G_iadd rfl ?_
          refine H_ist_6_4 rfl rfl ?_
          refine G_aload_n rfl rfl ?_
          refine H_getR rfl rfl rfl rfl rfl rfl ?_
          refine G_iload rfl rfl ?_
          refine G_iload_n rfl rfl ?_
          rw [e12]
          refine H_callV (ht) rfl rfl rfl rfl rfl rfl rfl rfl ?_
          refine G_if_eq rfl (fun h3 => ?_) (fun h3 => ?_)
          · exact absurd h3 (by rw [decide_eq_true h1]; decide)
          refine G_aload_n rfl rfl ?_
          refine H_getR rfl rfl rfl rfl rfl rfl ?_
          refine G_iload rfl rfl ?_
          refine G_iload_n rfl rfl ?_
          refine H_callV (hw) rfl rfl rfl rfl rfl rfl rfl rfl ?_
          refine G_iload_n rfl rfl ?_
          refine G_icmp_eq rfl (fun h4 => ?_) (fun h4 => ?_)
          · exact absurd h4 h2
          · skip
            refine G_iconst rfl ?_
            refine G_goto rfl ?_
            refine H_ist_6_5 rfl rfl ?_
            refine G_iload rfl rfl ?_
            refine G_if_eq rfl (fun h5 => ?_) (fun h5 => ?_)
            · exact absurd h5 (by decide)
            · skip
              refine G_iconst rfl ?_
              refine G_goto rfl ?_
              exact H_ret rfl rfl (rfl) (rfl)
        · exact absurd rfl h
    · refine ⟨_, 0, ?_, fr, rs 0 (fun _ => rfl) (fun q => absurd q h1)⟩
      refine EvM_mk [some (.ref 0), some (.int (nI a)), some (.int (nI p)), some (.int x), none, none] rfl rfl rfl rfl rfl (trivial) ?_
      refine G_aload_n rfl rfl ?_
      refine H_getR rfl rfl rfl rfl rfl rfl ?_
      refine G_iload_n rfl rfl ?_
      refine G_iload_n rfl rfl ?_
      refine H_callV (hh) rfl rfl rfl rfl rfl rfl rfl rfl ?_
      refine G_if_eq rfl (fun h => ?_) (fun h => ?_)
      · skip
        refine G_aload_n rfl rfl ?_
        refine H_getR rfl rfl rfl rfl rfl rfl ?_
        refine G_aload_n rfl rfl ?_
        refine H_getR rfl rfl rfl rfl rfl rfl ?_
        refine H_callU (evj) rfl rfl rfl rfl rfl rfl rfl rfl ?_
        refine G_bipush rfl ?_
        refine G_iload_n rfl rfl ?_
        refine G_iadd rfl ?_
        refine H_ist_6_4 rfl rfl ?_
        refine G_aload_n rfl rfl ?_
        refine H_getR rfl rfl rfl rfl rfl rfl ?_
        refine G_iload rfl rfl ?_
        refine G_iload_n rfl rfl ?_
        rw [e12]
        refine H_callV (ht) rfl rfl rfl rfl rfl rfl rfl rfl ?_
        refine G_if_eq rfl (fun h3 => ?_) (fun h3 => ?_)
        · skip
          refine G_iconst rfl ?_
          refine H_ist_6_5 rfl rfl ?_
          refine G_iload rfl rfl ?_
          refine G_if_eq rfl (fun h5 => ?_) (fun h5 => ?_)
          · skip
            refine G_iconst rfl ?_
            exact H_ret rfl rfl (rfl) (rfl)
          · exact absurd rfl h5
        · exact absurd (by rw [decide_eq_false h1]; decide) h3
      · exact absurd rfl h
end XP
