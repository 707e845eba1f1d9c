/-! groups: the looks -/
def gWith (f : Nat → Int32) (a o n : Nat) : Nat := cnt (fun i => decide (f a = f (o + i))) n
def gAhead (f d : Nat → Int32) (p n : Nat) : Nat := cnt (fun i => decide (f p = f i) && (decide (d i - d p < 0) || (decide (d i - d p = 0) && decide (i < p)))) n
/-- how far the point p is from the first one of those among the first n -/
def gFar (f d : Nat → Int32) (p : Nat) : Nat → Int32
  | 0 => 0
  | i + 1 => if f p = f i ∧ gFar f d p i < d p - d i then d p - d i else gFar f d p i
def gMost (f d : Nat → Int32) : Nat → Int32
  | 0 => 0
  | i + 1 => if gMost f d i < gFar f d i 12 then gFar f d i 12 else gMost f d i
def gLow (f : Nat → Int32) (p : Nat) : Bool := decide (cnt (fun o => decide (f o = f p)) p = 0)
theorem cnt_0 {f : Nat → Bool} : ∀ {n : Nat}, cnt f n = 0 ↔ ∀ i, i < n → f i = false
  | 0 => ⟨fun _ i h => absurd h (Nat.not_lt_zero i), fun _ => rfl⟩
  | n + 1 => by
    have ih := cnt_0 (f := f) (n := n)
    constructor
    · intro h i hi
      cases hf : f n with
      | true => rw [cnt_t hf] at h; omega
      | false =>
        rw [cnt_f hf] at h
        by_cases e : i = n
        · rw [e]; exact hf
        · exact ih.mp h i (by omega)
    · intro h
      rw [cnt_f (h n (by omega))]
      exact ih.mpr (fun i hi => h i (by omega))
section GQ
variable (S : Nat → Nat → Int32) (R : Nat → Nat)
set_option maxRecDepth 100000 in
theorem ev_pointsWith {a : Nat} (ha : a < 20) : EvM kGroups_pointsWith [.ref 13, .int (nI a)] (mk S R) (some (.int (nI (gWith (S 14) a 0 12)))) (mk S R) := by
  refine EvM_mk [some (.ref 13), some (.int (nI a)), none, none] rfl rfl rfl rfl rfl (trivial) ?_
  refine G_iconst rfl ?_
  refine H_ist_4_2 rfl rfl ?_
  refine G_iconst rfl ?_
  refine H_ist_4_3 rfl rfl ?_
  refine down 12 (fun i => Gm kGroups_pointsWith 4 [some (.ref 13), some (.int (nI a)), some (.int (nI (gWith (S 14) a 0 i))), some (.int (nI i))] [] (S, PF R, 24) _ _) ?_ (fun i hi ih => ?_)
  · skip
    refine G_iload_n rfl rfl ?_
    refine G_bipush rfl ?_
    refine G_icmp_ge rfl (fun h => ?_) (fun h => ?_)
    · skip
      refine G_iload_n rfl rfl ?_
      exact H_ret rfl rfl (rfl) (rfl)
    · exact absurd (by decide) h
  · have hc : decide (S 14 a = S 14 (0 + i)) = decide (S 14 a = S 14 i) := by rw [Nat.zero_add]
    refine G_iload_n rfl rfl ?_
    refine G_bipush rfl ?_
    refine G_icmp_ge rfl (fun h => ?_) (fun h => ?_)
    · exact absurd h (ge_no hi (by decide))
    refine G_iload_n rfl rfl ?_
    refine G_aload_n rfl rfl ?_
    refine G_iload_n rfl rfl ?_
    refine G_iload_n rfl rfl ?_
    refine H_callV (ev_together S R ha (by omega)) rfl rfl rfl rfl rfl rfl rfl rfl ?_
    refine G_if_eq rfl (fun h1 => ?_) (fun h1 => ?_)
    · skip
      refine G_iconst rfl ?_
      refine G_iadd rfl ?_
      refine H_ist_4_2 rfl rfl ?_
      refine H_inc_4_3 rfl rfl ?_
      refine G_goto rfl ?_
      rw [show gWith (S 14) a 0 (i + 1) = gWith (S 14) a 0 i from cnt_f (hc.trans (b2i_0.mp h1))] at ih
      rw [nI_succ, ← Int32.add_zero (nI (gWith (S 14) a 0 i))] at ih
      exact ih
    · skip
      refine G_iconst rfl ?_
      refine G_goto rfl ?_
      refine G_iadd rfl ?_
      refine H_ist_4_2 rfl rfl ?_
      refine H_inc_4_3 rfl rfl ?_
      refine G_goto rfl ?_
      rw [show gWith (S 14) a 0 (i + 1) = gWith (S 14) a 0 i + 1 from cnt_t (hc.trans (b2i_n0.mp h1)), nI_succ, nI_succ] at ih
      exact ih
set_option maxRecDepth 100000 in
theorem ev_tapesWithG {a T : Nat} (ha : a < 20) (hT : T ≤ 8) : EvM kGroups_tapesWith [.ref 13, .int (nI a), .int (nI T)] (mk S R) (some (.int (nI (gWith (S 14) a 12 T)))) (mk S R) := by
  refine EvM_mk [some (.ref 13), some (.int (nI a)), some (.int (nI T)), none, none] rfl rfl rfl rfl rfl (trivial) ?_
  refine G_iconst rfl ?_
  refine H_ist_5_3 rfl rfl ?_
  refine G_iconst rfl ?_
  refine H_ist_5_4 rfl rfl ?_
  refine down T (fun i => Gm kGroups_tapesWith 5 [some (.ref 13), some (.int (nI a)), some (.int (nI T)), some (.int (nI (gWith (S 14) a 12 i))), some (.int (nI i))] [] (S, PF R, 24) _ _) ?_ (fun i hi ih => ?_)
  · skip
    refine G_iload rfl rfl ?_
    refine G_iload_n rfl rfl ?_
    refine G_icmp_ge rfl (fun h => ?_) (fun h => ?_)
    · skip
      refine G_iload_n rfl rfl ?_
      exact H_ret rfl rfl (rfl) (rfl)
    · exact absurd (Int32.le_refl _) h
  · have e12 : (12 : Int32) + nI i = nI (12 + i) := nI_add 12 i
    have hg := ev_together S R ha (b := 12 + i) (by omega)
    rw [← e12] at hg
    refine G_iload rfl rfl ?_
    refine G_iload_n rfl rfl ?_
    refine G_icmp_ge rfl (fun h => ?_) (fun h => ?_)
    · exact absurd h (ge_no hi (by omega))
    refine G_iload_n rfl rfl ?_
    refine G_aload_n rfl rfl ?_
    refine G_iload_n rfl rfl ?_
    refine G_bipush rfl ?_
    refine G_iload rfl rfl ?_
    refine G_iadd rfl ?_
    refine H_callV (hg) rfl rfl rfl rfl rfl rfl rfl rfl ?_
    refine G_if_eq rfl (fun h1 => ?_) (fun h1 => ?_)
    · skip
      refine G_iconst rfl ?_
      refine G_iadd rfl ?_
      refine H_ist_5_3 rfl rfl ?_
      refine H_inc_5_4 rfl rfl ?_
      refine G_goto rfl ?_
      rw [show gWith (S 14) a 12 (i + 1) = gWith (S 14) a 12 i from cnt_f (b2i_0.mp h1)] at ih
      rw [nI_succ, ← Int32.add_zero (nI (gWith (S 14) a 12 i))] at ih
      exact ih
    · skip
      refine G_iconst rfl ?_
      refine G_goto rfl ?_
      refine G_iadd rfl ?_
      refine H_ist_5_3 rfl rfl ?_
      refine H_inc_5_4 rfl rfl ?_
      refine G_goto rfl ?_
      rw [show gWith (S 14) a 12 (i + 1) = gWith (S 14) a 12 i + 1 from cnt_t (b2i_n0.mp h1), nI_succ, nI_succ] at ih
      exact ih
def gNew (f : Nat → Int32) (t p : Nat) : Nat := if f (12 + t) = f p then 0 else gWith f (12 + t) 0 12 * gWith f p 0 12
set_option maxRecDepth 100000 in
theorem ev_newPairs {t p : Nat} (ht : t < 8) (hp : p < 12) : EvM kGroups_newPairs [.ref 13, .int (nI t), .int (nI p)] (mk S R) (some (.int (nI (gNew (S 14) t p)))) (mk S R) := by
  have e12 : (12 : Int32) + nI t = nI (12 + t) := nI_add 12 t
  refine EvM_mk [some (.ref 13), some (.int (nI t)), some (.int (nI p)), none] rfl rfl rfl rfl rfl (trivial) ?_
  refine G_bipush rfl ?_
  refine G_iload_n rfl rfl ?_
  refine G_iadd rfl ?_
  rw [e12]
  refine H_ist_4_3 rfl rfl ?_
  refine G_aload_n rfl rfl ?_
  refine G_iload_n rfl rfl ?_
  refine G_iload_n rfl rfl ?_
  refine H_callV (ev_together S R (a := 12 + t) (b := p) (by omega) (by omega)) rfl rfl rfl rfl rfl rfl rfl rfl ?_
  refine G_if_eq rfl (fun h => ?_) (fun h => ?_)
  · have h := of_decide_eq_false (b2i_0.mp h)
    refine G_aload_n rfl rfl ?_
    refine G_iload_n rfl rfl ?_
    refine H_callV (ev_pointsWith S R (a := 12 + t) (by omega)) rfl rfl rfl rfl rfl rfl rfl rfl ?_
    refine G_aload_n rfl rfl ?_
    refine G_iload_n rfl rfl ?_
    refine H_callV (ev_pointsWith S R (a := p) (by omega)) rfl rfl rfl rfl rfl rfl rfl rfl ?_
    refine G_imul rfl ?_
    exact H_ret rfl rfl ((by rw [gNew, if_neg h, ← pk_mul])) (rfl)
  · have h := of_decide_eq_true (b2i_n0.mp h)
    refine G_iconst rfl ?_
    refine G_goto rfl ?_
    exact H_ret rfl rfl ((by rw [gNew, if_pos h]; rfl)) (rfl)
set_option maxRecDepth 100000 in
theorem ev_pointsAheadOf {p : Nat} (hp : p < 12) : EvM kGroups_pointsAheadOf [.ref 13, .int (nI p)] (mk S R) (some (.int (nI (gAhead (S 14) (S 15) p 12)))) (mk S R) := by
  refine EvM_mk [some (.ref 13), some (.int (nI p)), none, none, none] rfl rfl rfl rfl rfl (trivial) ?_
  refine G_iconst rfl ?_
  refine H_ist_5_2 rfl rfl ?_
  refine G_iconst rfl ?_
  refine H_ist_5_3 rfl rfl ?_
  refine down 12 (fun i => ∀ l4, Gm kGroups_pointsAheadOf 4 [some (.ref 13), some (.int (nI p)), some (.int (nI (gAhead (S 14) (S 15) p i))), some (.int (nI i)), l4] [] (S, PF R, 24) (some (.int (nI (gAhead (S 14) (S 15) p 12)))) (S, PF R, 24)) (fun l4 => ?_) (fun i hi ih l4 => ?_) none
  · skip
    refine G_iload_n rfl rfl ?_
    refine G_bipush rfl ?_
    refine G_icmp_ge rfl (fun h => ?_) (fun h => ?_)
    · skip
      refine G_iload_n rfl rfl ?_
      exact H_ret rfl rfl (rfl) (rfl)
    · exact absurd (by decide) h
  · have no : (decide (S 14 p = S 14 i) && (decide (S 15 i - S 15 p < 0) || (decide (S 15 i - S 15 p = 0) && decide (i < p)))) = false → ∀ l4, Gm kGroups_pointsAheadOf 50 [some (.ref 13), some (.int (nI p)), some (.int (nI (gAhead (S 14) (S 15) p i))), some (.int (nI i)), l4] [] (S, PF R, 24) (some (.int (nI (gAhead (S 14) (S 15) p 12)))) (S, PF R, 24) := fun e l4 => by
      have ih := ih l4
      refine H_inc_5_3 rfl rfl ?_
      refine G_goto rfl ?_
      rw [show gAhead (S 14) (S 15) p (i + 1) = gAhead (S 14) (S 15) p i from cnt_f e, nI_succ] at ih
      exact ih
    have no2 : (decide (S 14 p = S 14 i) && (decide (S 15 i - S 15 p < 0) || (decide (S 15 i - S 15 p = 0) && decide (i < p)))) = false → ∀ l4, Gm kGroups_pointsAheadOf 47 [some (.ref 13), some (.int (nI p)), some (.int (nI (gAhead (S 14) (S 15) p i))), some (.int (nI i)), l4] [.int (nI (gAhead (S 14) (S 15) p i))] (S, PF R, 24) (some (.int (nI (gAhead (S 14) (S 15) p 12)))) (S, PF R, 24) := fun e l4 => by
      have ih := no e l4
      refine G_iconst rfl ?_
      refine G_iadd rfl ?_
      refine H_ist_5_2 rfl rfl ?_
      rw [Int32.add_zero]
      exact ih
    have yes : (decide (S 14 p = S 14 i) && (decide (S 15 i - S 15 p < 0) || (decide (S 15 i - S 15 p = 0) && decide (i < p)))) = true → ∀ l4, Gm kGroups_pointsAheadOf 43 [some (.ref 13), some (.int (nI p)), some (.int (nI (gAhead (S 14) (S 15) p i))), some (.int (nI i)), l4] [.int (nI (gAhead (S 14) (S 15) p i))] (S, PF R, 24) (some (.int (nI (gAhead (S 14) (S 15) p 12)))) (S, PF R, 24) := fun e l4 => by
      have ih := ih l4
      refine G_iconst rfl ?_
      refine G_goto rfl ?_
      refine G_iadd rfl ?_
      refine H_ist_5_2 rfl rfl ?_
      refine H_inc_5_3 rfl rfl ?_
      refine G_goto rfl ?_
      rw [show gAhead (S 14) (S 15) p (i + 1) = gAhead (S 14) (S 15) p i + 1 from cnt_t e, nI_succ, nI_succ] at ih
      exact ih
    refine G_iload_n rfl rfl ?_
    refine G_bipush rfl ?_
    refine G_icmp_ge rfl (fun h => ?_) (fun h => ?_)
    · exact absurd h (ge_no hi (by decide))
    refine G_aload_n rfl rfl ?_
    refine G_iload_n rfl rfl ?_
    refine G_iload_n rfl rfl ?_
    refine H_callV (ev_together S R (a := p) (b := i) (by omega) (by omega)) rfl rfl rfl rfl rfl rfl rfl rfl ?_
    refine G_if_eq rfl (fun h1 => ?_) (fun h1 => ?_)
    · exact no (by rw [b2i_0.mp h1]; rfl) l4
    · have h1 := of_decide_eq_true (b2i_n0.mp h1)
      refine G_aload_n rfl rfl ?_
      refine G_iload_n rfl rfl ?_
      refine G_iload_n rfl rfl ?_
      refine H_callV (ev_way S R (a := p) (b := i) (by omega) (by omega)) rfl rfl rfl rfl rfl rfl rfl rfl ?_
      refine H_ist_5_4 rfl rfl ?_
      refine G_iload_n rfl rfl ?_
      refine G_iload rfl rfl ?_
      refine G_if_lt rfl (fun h2 => ?_) (fun h2 => ?_)
      · exact yes (by simp [h1, h2]) _
      refine G_iload rfl rfl ?_
      refine G_if_ne rfl (fun h3 => ?_) (fun h3 => ?_)
      · exact no2 (by simp [h2, h3]) _
      · have h3 := Decidable.of_not_not h3
        refine G_iload_n rfl rfl ?_
        refine G_iload_n rfl rfl ?_
        refine G_icmp_ge rfl (fun h4 => ?_) (fun h4 => ?_)
        · have h4 : ¬ i < p := fun q => absurd h4 (ge_no q (by omega))
          exact no2 (by simp [h2, h4]) _
        · have h4 : i < p := Decidable.byContradiction fun q => h4 (nI_le (by omega) (by omega))
          exact yes (by simp [h1, h3, h4]) _
set_option maxRecDepth 100000 in
theorem ev_farFromFirst {p : Nat} (hp : p < 12) : EvM kGroups_farFromFirst [.ref 13, .int (nI p)] (mk S R) (some (.int (gFar (S 14) (S 15) p 12))) (mk S R) := by
  refine EvM_mk [some (.ref 13), some (.int (nI p)), none, none] rfl rfl rfl rfl rfl (trivial) ?_
  refine G_iconst rfl ?_
  refine H_ist_4_2 rfl rfl ?_
  refine G_iconst rfl ?_
  refine H_ist_4_3 rfl rfl ?_
  refine down 12 (fun i => Gm kGroups_farFromFirst 4 [some (.ref 13), some (.int (nI p)), some (.int (gFar (S 14) (S 15) p i)), some (.int (nI i))] [] (S, PF R, 24) _ _) ?_ (fun i hi ih => ?_)
  · skip
    refine G_iload_n rfl rfl ?_
    refine G_bipush rfl ?_
    refine G_icmp_ge rfl (fun h => ?_) (fun h => ?_)
    · skip
      refine G_iload_n rfl rfl ?_
      exact H_ret rfl rfl (rfl) (rfl)
    · exact absurd (by decide) h
  · have no : ¬ (S 14 p = S 14 i ∧ gFar (S 14) (S 15) p i < S 15 p - S 15 i) → Gm kGroups_farFromFirst 36 [some (.ref 13), some (.int (nI p)), some (.int (gFar (S 14) (S 15) p i)), some (.int (nI i))] [] (S, PF R, 24) (some (.int (gFar (S 14) (S 15) p 12))) (S, PF R, 24) := fun e => by
      refine H_inc_4_3 rfl rfl ?_
      refine G_goto rfl ?_
      rw [gFar, if_neg e, nI_succ] at ih
      exact ih
    refine G_iload_n rfl rfl ?_
    refine G_bipush rfl ?_
    refine G_icmp_ge rfl (fun h => ?_) (fun h => ?_)
    · exact absurd h (ge_no hi (by decide))
    refine G_aload_n rfl rfl ?_
    refine G_iload_n rfl rfl ?_
    refine G_iload_n rfl rfl ?_
    refine H_callV (ev_together S R (a := p) (b := i) (by omega) (by omega)) rfl rfl rfl rfl rfl rfl rfl rfl ?_
    refine G_if_eq rfl (fun h1 => ?_) (fun h1 => ?_)
    · exact no (fun q => of_decide_eq_false (b2i_0.mp h1) q.1)
    · have h1 := of_decide_eq_true (b2i_n0.mp h1)
      refine G_aload_n rfl rfl ?_
      refine G_iload_n rfl rfl ?_
      refine G_iload_n rfl rfl ?_
      refine H_callV (ev_way S R (a := i) (b := p) (by omega) (by omega)) rfl rfl rfl rfl rfl rfl rfl rfl ?_
      refine G_iload_n rfl rfl ?_
      refine G_icmp_le rfl (fun h2 => ?_) (fun h2 => ?_)
      · exact no (fun q => absurd q.2 (Int32.not_lt.mpr h2))
      · have h2 : gFar (S 14) (S 15) p i < S 15 p - S 15 i := Int32.not_le.mp h2
        refine G_aload_n rfl rfl ?_
        refine G_iload_n rfl rfl ?_
        refine G_iload_n rfl rfl ?_
        refine H_callV (ev_way S R (a := i) (b := p) (by omega) (by omega)) rfl rfl rfl rfl rfl rfl rfl rfl ?_
        refine H_ist_4_2 rfl rfl ?_
        refine H_inc_4_3 rfl rfl ?_
        refine G_goto rfl ?_
        rw [gFar, if_pos ⟨h1, h2⟩, nI_succ] at ih
        exact ih
set_option maxRecDepth 100000 in
theorem ev_greatestWay : EvM kGroups_greatestWay [.ref 13] (mk S R) (some (.int (gMost (S 14) (S 15) 12))) (mk S R) := by
  refine EvM_mk [some (.ref 13), none, none, none] rfl rfl rfl rfl rfl (trivial) ?_
  refine G_iconst rfl ?_
  refine H_ist_4_1 rfl rfl ?_
  refine G_iconst rfl ?_
  refine H_ist_4_2 rfl rfl ?_
  refine down 12 (fun i => ∀ l3, Gm kGroups_greatestWay 4 [some (.ref 13), some (.int (gMost (S 14) (S 15) i)), some (.int (nI i)), l3] [] (S, PF R, 24) (some (.int (gMost (S 14) (S 15) 12))) (S, PF R, 24)) (fun l3 => ?_) (fun i hi ih l3 => ?_) none
  · skip
    refine G_iload_n rfl rfl ?_
    refine G_bipush rfl ?_
    refine G_icmp_ge rfl (fun h => ?_) (fun h => ?_)
    · skip
      refine G_iload_n rfl rfl ?_
      exact H_ret rfl rfl (rfl) (rfl)
    · exact absurd (by decide) h
  · skip
    refine G_iload_n rfl rfl ?_
    refine G_bipush rfl ?_
    refine G_icmp_ge rfl (fun h => ?_) (fun h => ?_)
    · exact absurd h (ge_no hi (by decide))
    refine G_aload_n rfl rfl ?_
    refine G_iload_n rfl rfl ?_
    refine H_callV (ev_farFromFirst S R (p := i) (by omega)) rfl rfl rfl rfl rfl rfl rfl rfl ?_
    have ih := ih (some (.int (gFar (S 14) (S 15) i 12)))
    refine H_ist_4_3 rfl rfl ?_
    refine G_iload_n rfl rfl ?_
    refine G_iload_n rfl rfl ?_
    refine G_icmp_le rfl (fun h1 => ?_) (fun h1 => ?_)
    · skip
      refine G_iload_n rfl rfl ?_
      refine H_ist_4_1 rfl rfl ?_
      refine H_inc_4_2 rfl rfl ?_
      refine G_goto rfl ?_
      rw [gMost, if_neg (Int32.not_lt.mpr h1), nI_succ] at ih
      exact ih
    · skip
      refine G_iload_n rfl rfl ?_
      refine G_goto rfl ?_
      refine H_ist_4_1 rfl rfl ?_
      refine H_inc_4_2 rfl rfl ?_
      refine G_goto rfl ?_
      rw [gMost, if_pos (Int32.not_le.mp h1), nI_succ] at ih
      exact ih
set_option maxRecDepth 100000 in
theorem ev_isLowest {p : Nat} (hp : p < 12) : EvM kGroups_isLowest [.ref 13, .int (nI p)] (mk S R) (some (.int (b2i (gLow (S 14) p)))) (mk S R) := by
  refine EvM_mk [some (.ref 13), some (.int (nI p)), none] rfl rfl rfl rfl rfl (okb _) ?_
  refine G_iconst rfl ?_
  refine H_ist_3_2 rfl rfl ?_
  refine down p (fun i => (∀ o, o < i → ¬ S 14 o = S 14 p) → Gm kGroups_isLowest 2 [some (.ref 13), some (.int (nI p)), some (.int (nI i))] [] (S, PF R, 24) _ _) (fun hall => ?_) (fun i hi ih hall => ?_) (fun o ho => absurd ho (Nat.not_lt_zero o))
  · skip
    refine G_iload_n rfl rfl ?_
    refine G_iload_n rfl rfl ?_
    refine G_icmp_ge rfl (fun h => ?_) (fun h => ?_)
    · skip
      refine G_iconst rfl ?_
      exact H_ret rfl rfl ((by rw [gLow, decide_eq_true (cnt_0.mpr (fun i hi => decide_eq_false (hall i hi)))]; rfl)) (rfl)
    · exact absurd (Int32.le_refl _) h
  · skip
    refine G_iload_n rfl rfl ?_
    refine G_iload_n rfl rfl ?_
    refine G_icmp_ge rfl (fun h => ?_) (fun h => ?_)
    · exact absurd h (ge_no hi (by omega))
    refine G_aload_n rfl rfl ?_
    refine G_iload_n rfl rfl ?_
    refine G_iload_n rfl rfl ?_
    refine H_callV (ev_together S R (a := i) (b := p) (by omega) (by omega)) rfl rfl rfl rfl rfl rfl rfl rfl ?_
    refine G_if_eq rfl (fun h1 => ?_) (fun h1 => ?_)
    · have h1 := of_decide_eq_false (b2i_0.mp h1)
      have ih := ih (fun o ho => by
        by_cases e : o = i
        · rw [e]; exact h1
        · exact hall o (by omega))
      refine H_inc_3_2 rfl rfl ?_
      refine G_goto rfl ?_
      rw [nI_succ] at ih
      exact ih
    · have h1 := b2i_n0.mp h1
      refine G_iconst rfl ?_
      exact H_ret rfl rfl ((by rw [gLow, decide_eq_false (fun q => by have := cnt_0.mp q i hi; rw [h1] at this; cases this)]; rfl)) (rfl)
set_option maxRecDepth 100000 in
theorem ev_clusters : EvM kGroups_clusters [.ref 13] (mk S R) (some (.int (nI (cnt (gLow (S 14)) 12)))) (mk S R) := by
  refine EvM_mk [some (.ref 13), none, none] rfl rfl rfl rfl rfl (trivial) ?_
  refine G_iconst rfl ?_
  refine H_ist_3_1 rfl rfl ?_
  refine G_iconst rfl ?_
  refine H_ist_3_2 rfl rfl ?_
  refine down 12 (fun i => Gm kGroups_clusters 4 [some (.ref 13), some (.int (nI (cnt (gLow (S 14)) i))), some (.int (nI i))] [] (S, PF R, 24) _ _) ?_ (fun i hi ih => ?_)
  · skip
    refine G_iload_n rfl rfl ?_
    refine G_bipush rfl ?_
    refine G_icmp_ge rfl (fun h => ?_) (fun h => ?_)
    · skip
      refine G_iload_n rfl rfl ?_
      exact H_ret rfl rfl (rfl) (rfl)
    · exact absurd (by decide) h
  · skip
    refine G_iload_n rfl rfl ?_
    refine G_bipush rfl ?_
    refine G_icmp_ge rfl (fun h => ?_) (fun h => ?_)
    · exact absurd h (ge_no hi (by decide))
    refine G_iload_n rfl rfl ?_
    refine G_aload_n rfl rfl ?_
    refine G_iload_n rfl rfl ?_
    refine H_callV (ev_isLowest S R hi) rfl rfl rfl rfl rfl rfl rfl rfl ?_
    refine G_if_eq rfl (fun h1 => ?_) (fun h1 => ?_)
    · skip
      refine G_iconst rfl ?_
      refine G_iadd rfl ?_
      refine H_ist_3_1 rfl rfl ?_
      refine H_inc_3_2 rfl rfl ?_
      refine G_goto rfl ?_
      rw [cnt_f (b2i_0.mp h1), nI_succ i, ← Int32.add_zero (nI (cnt (gLow (S 14)) i))] at ih
      exact ih
    · skip
      refine G_iconst rfl ?_
      refine G_goto rfl ?_
      refine G_iadd rfl ?_
      refine H_ist_3_1 rfl rfl ?_
      refine H_inc_3_2 rfl rfl ?_
      refine G_goto rfl ?_
      rw [cnt_t (b2i_n0.mp h1), nI_succ, nI_succ] at ih
      exact ih
def gLowR (f row : Nat → Int32) (T p : Nat) : Bool := gLow f p && decide (0 < tAtP row (nI p) T)
set_option maxRecDepth 100000 in
theorem ev_clustersRead {T : Nat} (hT : S 2 96 = nI T) (hT8 : T ≤ 8) : EvM kGroups_clustersRead [.ref 13, .ref 1] (mk S R) (some (.int (nI (cnt (gLowR (S 14) (S 2) T) 12)))) (mk S R) := by
  have hq : TQ 1 2 := Or.inl ⟨rfl, rfl⟩
  refine EvM_mk [some (.ref 13), some (.ref 1), none, none] rfl rfl rfl rfl rfl (trivial) ?_
  refine G_iconst rfl ?_
  refine H_ist_4_2 rfl rfl ?_
  refine G_iconst rfl ?_
  refine H_ist_4_3 rfl rfl ?_
  refine down 12 (fun i => Gm kGroups_clustersRead 4 [some (.ref 13), some (.ref 1), some (.int (nI (cnt (gLowR (S 14) (S 2) T) i))), some (.int (nI i))] [] (S, PF R, 24) _ _) ?_ (fun i hi ih => ?_)
  · skip
    refine G_iload_n rfl rfl ?_
    refine G_bipush rfl ?_
    refine G_icmp_ge rfl (fun h => ?_) (fun h => ?_)
    · skip
      refine G_iload_n rfl rfl ?_
      exact H_ret rfl rfl (rfl) (rfl)
    · exact absurd (by decide) h
  · have no : gLowR (S 14) (S 2) T i = false → Gm kGroups_clustersRead 31 [some (.ref 13), some (.ref 1), some (.int (nI (cnt (gLowR (S 14) (S 2) T) i))), some (.int (nI i))] [.int (nI (cnt (gLowR (S 14) (S 2) T) i))] (S, PF R, 24) (some (.int (nI (cnt (gLowR (S 14) (S 2) T) 12)))) (S, PF R, 24) := fun e => by
      refine G_iconst rfl ?_
      refine G_iadd rfl ?_
      refine H_ist_4_2 rfl rfl ?_
      refine H_inc_4_3 rfl rfl ?_
      refine G_goto rfl ?_
      rw [cnt_f e, nI_succ i, ← Int32.add_zero (nI (cnt (gLowR (S 14) (S 2) T) i))] at ih
      exact ih
    have hle : tAtP (S 2) (nI i) T < 2 ^ 31 := Nat.lt_of_le_of_lt (cnt_le _ _) (by omega)
    refine G_iload_n rfl rfl ?_
    refine G_bipush rfl ?_
    refine G_icmp_ge rfl (fun h => ?_) (fun h => ?_)
    · exact absurd h (ge_no hi (by decide))
    refine G_iload_n rfl rfl ?_
    refine G_aload_n rfl rfl ?_
    refine G_iload_n rfl rfl ?_
    refine H_callV (ev_isLowest S R hi) rfl rfl rfl rfl rfl rfl rfl rfl ?_
    refine G_if_eq rfl (fun h1 => ?_) (fun h1 => ?_)
    · exact no (by rw [gLowR, b2i_0.mp h1]; rfl)
    · have h1 := b2i_n0.mp h1
      refine G_aload_n rfl rfl ?_
      refine G_iload_n rfl rfl ?_
      refine H_callV (ev_readingsAt hq S R (nI i) hT hT8) rfl rfl rfl rfl rfl rfl rfl rfl ?_
      refine G_if_le rfl (fun h2 => ?_) (fun h2 => ?_)
      · exact no (by
          rw [gLowR, decide_eq_false (fun q => absurd h2 (nI_nle q hle)), Bool.and_false])
      · have h3 : gLowR (S 14) (S 2) T i = true := by
          rw [gLowR, h1, decide_eq_true (Decidable.byContradiction fun q => h2 (by
            rw [show tAtP (S 2) (nI i) T = 0 by omega]
            decide))]
          rfl
        refine G_iconst rfl ?_
        refine G_goto rfl ?_
        refine G_iadd rfl ?_
        refine H_ist_4_2 rfl rfl ?_
        refine H_inc_4_3 rfl rfl ?_
        refine G_goto rfl ?_
        rw [cnt_t h3, nI_succ, nI_succ] at ih
        exact ih
end GQ
