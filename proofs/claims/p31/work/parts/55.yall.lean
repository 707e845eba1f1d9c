/-! the law's acts, all of them -/
section ALL
variable {S0 : Sf} {R : Rf} {T n m : Nat} {π : Nat → Int32} {t p h : Nat} {x y : Int32}
theorem ac_go (hH : HI S0 R n) (hG : GR (S0 2) T) (hπ : Pot (S0 2) π) (hP : PD S0 m) (ht : t ≤ T) (hp : p ≤ 12) (hh : h < 30) : Y 0 (fun _ => 0) kLaw_acts 24 108 [some (.ref 0), some (.int x), some (.int y), some (.int (nI h)), some (.int (nI T)), some (.int (nI (tAll (S0 2) T))), some (.int (nI t)), some (.int (nI p)), some (.int (b2i (decide (t = T) || decide (p = 12)))), some (.int (S0 2 98)), none, none, none, none, none] [] S0 R (PA S0 R n) := by
  have hn4 := hH.2.2.1
  by_cases h4 : h < 4
  · exact at_tape hH hG hπ hP h4
  · refine Y_iload_n rfl rfl ?_
    refine Y_iconst rfl ?_
    refine Y_icmp_ge_t rfl (nI_le (b := h) (a := 4) (by omega) (by omega)) ?_
    by_cases h16 : h < 16
    · exact at_read hH hG hπ hP ht hp h16
    · refine Y_iload_n rfl rfl ?_
      refine Y_bipush rfl ?_
      refine Y_icmp_ge_t rfl (nI_le (b := h) (a := 16) (by omega) (by omega)) ?_
      by_cases h19 : h < 19
      · exact at_lose hH hG hπ hP ht hp h19
      · refine Y_iload_n rfl rfl ?_
        refine Y_bipush rfl ?_
        refine Y_icmp_ge_t rfl (nI_le (b := h) (a := 19) (by omega) (by omega)) ?_
        by_cases h26 : h < 26
        · refine Y_iload_n rfl rfl ?_
          refine Y_bipush rfl ?_
          refine Y_icmp_ge_f rfl (nI_ge (b := 26) h26 (by decide)) ?_
          by_cases h22 : h < 22
          · refine Y_aload_n rfl rfl ?_
            refine Y_iload_n rfl rfl ?_
            refine Y_bipush rfl ?_
            refine Y_icmp_ge_f rfl (nI_ge (b := 22) h22 (by decide)) ?_
            refine Y_iconst rfl ?_
            refine Y_goto rfl ?_
            refine Y_iload_n rfl rfl ?_
            refine Y_deedS (dd_how hH hG hπ hP (how := 0) (Or.inl rfl)) rfl rfl rfl rfl (fun w S1 R1 hQ => ?_)
            obtain ⟨rfl, ac⟩ := hQ
            exact Y_ret rfl rfl (fun S hS => PA_ret ac hn4 S hS)
          · refine Y_aload_n rfl rfl ?_
            refine Y_iload_n rfl rfl ?_
            refine Y_bipush rfl ?_
            refine Y_icmp_ge_t rfl (nI_le (b := h) (a := 22) (by omega) (by omega)) ?_
            by_cases h24 : h < 24
            · refine Y_iload_n rfl rfl ?_
              refine Y_bipush rfl ?_
              refine Y_icmp_ge_f rfl (nI_ge (b := 24) h24 (by decide)) ?_
              refine Y_iconst rfl ?_
              refine Y_goto rfl ?_
              refine Y_iload_n rfl rfl ?_
              refine Y_deedS (dd_how hH hG hπ hP (how := 1) (Or.inr (Or.inl rfl))) rfl rfl rfl rfl (fun w S1 R1 hQ => ?_)
              obtain ⟨rfl, ac⟩ := hQ
              exact Y_ret rfl rfl (fun S hS => PA_ret ac hn4 S hS)
            · refine Y_iload_n rfl rfl ?_
              refine Y_bipush rfl ?_
              refine Y_icmp_ge_t rfl (nI_le (b := h) (a := 24) (by omega) (by omega)) ?_
              refine Y_iconst rfl ?_
              refine Y_iload_n rfl rfl ?_
              refine Y_deedS (dd_how hH hG hπ hP (how := 2) (Or.inr (Or.inr rfl))) rfl rfl rfl rfl (fun w S1 R1 hQ => ?_)
              obtain ⟨rfl, ac⟩ := hQ
              exact Y_ret rfl rfl (fun S hS => PA_ret ac hn4 S hS)
        · refine Y_iload_n rfl rfl ?_
          refine Y_bipush rfl ?_
          refine Y_icmp_ge_t rfl (nI_le (b := h) (a := 26) (by omega) (by omega)) ?_
          by_cases e26 : h = 26
          · exact at_drop hH hG hπ hP ht e26
          · refine Y_iload_n rfl rfl ?_
            refine Y_bipush rfl ?_
            refine Y_icmp_ne_t rfl ((fun e => e26 ((nI_eq (b := 26) (by omega) (by decide)).mp e))) ?_
            refine Y_aload_n rfl rfl ?_
            refine Y_iload_n rfl rfl ?_
            refine Y_deedS (md_takes hH hG hπ hP y) rfl rfl rfl rfl (fun w S1 R1 hQ => ?_)
            obtain ⟨rfl, ac⟩ := hQ
            exact Y_ret rfl rfl (fun S hS => PA_ret ac hn4 S hS)
theorem md_acts (hH : HI S0 R n) (hG : GR (S0 2) T) (hπ : Pot (S0 2) π) (hP : PD S0 m) (x y : Int32) : MM S0 R kLaw_acts [.ref 0, .int x, .int y] (fun w S1 R1 => w = .int 1 ∧ AC S0 R n S1 R1) := by
  have h8 := hG.1.2.1
  refine MM_mk [some (.ref 0), some (.int x), some (.int y), none, none, none, none, none, none, none, none, none, none, none, none] rfl rfl rfl rfl rfl ?_
  refine Y_iload_n rfl rfl ?_
  refine Y_bipush rfl ?_
  refine Y_lookS (lk_low (N := 30) (by decide) (by decide) _) rfl rfl rfl rfl ?_
  have hh : lw x 30 < 30 := lw_lt (by decide)
  generalize lw x 30 = h at hh ⊢
  refine Y_ist_15_3 rfl rfl ?_
  refine Y_aload_n rfl rfl ?_
  refine Y_iconst rfl ?_
  refine Y_look (lk_c0 hG hπ hP.1 hH.2.1) rfl rfl rfl rfl rfl ?_
  refine Y_ist_15_4 rfl rfl ?_
  refine Y_aload_n rfl rfl ?_
  refine Y_iconst rfl ?_
  refine Y_look (lk_c1 hG hπ hP.1 hH.2.1) rfl rfl rfl rfl rfl ?_
  have A : ∀ t p, t ≤ T → p ≤ 12 → Y 0 (fun _ => 0) kLaw_acts 24 79 [some (.ref 0), some (.int x), some (.int y), some (.int (nI h)), some (.int (nI T)), some (.int (nI (tAll (S0 2) T))), some (.int (nI t)), some (.int (nI p)), none, none, none, none, none, none, none] [] S0 R (PA S0 R n) := fun t p ht hp => by
    have B := ac_go (x := x) (y := y) hH hG hπ hP ht hp hh
    by_cases e : t = T
    · rw [decide_eq_true e, Bool.true_or] at B
      refine Y_iload rfl rfl ?_
      refine Y_iload rfl rfl ?_
      refine Y_icmp_eq_t rfl (congrArg nI e) ?_
      refine Y_iconst rfl ?_
      refine Y_goto rfl ?_
      refine Y_ist_15_8 rfl rfl ?_
      refine Y_aload_n rfl rfl ?_
      refine Y_bipush rfl ?_
      refine Y_look (lk_c9 hG hπ hP.1 hH.2.1) rfl rfl rfl rfl rfl ?_
      refine Y_ist_15_9 rfl rfl ?_
      exact B
    · rw [decide_eq_false e, Bool.false_or] at B
      refine Y_iload rfl rfl ?_
      refine Y_iload rfl rfl ?_
      refine Y_icmp_eq_f rfl ((fun q => e ((nI_eq (by omega) (by omega)).mp q))) ?_
      by_cases e2 : p = 12
      · rw [decide_eq_true e2] at B
        refine Y_iload rfl rfl ?_
        refine Y_bipush rfl ?_
        refine Y_icmp_ne_f rfl (congrArg nI e2) ?_
        refine Y_iconst rfl ?_
        refine Y_goto rfl ?_
        refine Y_ist_15_8 rfl rfl ?_
        refine Y_aload_n rfl rfl ?_
        refine Y_bipush rfl ?_
        refine Y_look (lk_c9 hG hπ hP.1 hH.2.1) rfl rfl rfl rfl rfl ?_
        refine Y_ist_15_9 rfl rfl ?_
        exact B
      · rw [decide_eq_false e2] at B
        refine Y_iload rfl rfl ?_
        refine Y_bipush rfl ?_
        refine Y_icmp_ne_t rfl ((fun q => e2 ((nI_eq (b := 12) (by omega) (by decide)).mp q))) ?_
        refine Y_iconst rfl ?_
        refine Y_ist_15_8 rfl rfl ?_
        refine Y_aload_n rfl rfl ?_
        refine Y_bipush rfl ?_
        refine Y_look (lk_c9 hG hπ hP.1 hH.2.1) rfl rfl rfl rfl rfl ?_
        refine Y_ist_15_9 rfl rfl ?_
        exact B
  have D : ∀ t, t ≤ T → Y 0 (fun _ => 0) kLaw_acts 24 50 [some (.ref 0), some (.int x), some (.int y), some (.int (nI h)), some (.int (nI T)), some (.int (nI (tAll (S0 2) T))), none, none, none, none, none, none, none, none, none] [.int (nI t)] S0 R (PA S0 R n) := fun t ht => by
    refine Y_ist_15_6 rfl rfl ?_
    refine Y_iload_n rfl rfl ?_
    refine Y_iconst rfl ?_
    refine Y_ishr rfl ?_
    refine Y_iload_n rfl rfl ?_
    refine Y_bipush rfl ?_
    refine Y_ishr rfl ?_
    refine Y_bipush rfl ?_
    refine Y_lookS (lk_low (N := 9) (by decide) (by decide) _) rfl rfl rfl rfl ?_
    by_cases h0 : nI (lw (y >>> (16 &&& 31)) 9) = 0
    · refine Y_if_ne_f rfl (h0) ?_
      refine Y_bipush rfl ?_
      refine Y_goto rfl ?_
      refine Y_lookS (lk_low (N := 13) (by decide) (by decide) _) rfl rfl rfl rfl ?_
      refine Y_ist_15_7 rfl rfl ?_
      exact A t _ ht (Nat.le_of_lt_succ (lw_lt (by decide)))
    · refine Y_if_ne_t rfl (h0) ?_
      refine Y_bipush rfl ?_
      refine Y_lookS (lk_low (N := 12) (by decide) (by decide) _) rfl rfl rfl rfl ?_
      refine Y_ist_15_7 rfl rfl ?_
      exact A t _ ht (Nat.le_of_lt (lw_lt (by decide)))
  have E : Y 0 (fun _ => 0) kLaw_acts 24 47 [some (.ref 0), some (.int x), some (.int y), some (.int (nI h)), some (.int (nI T)), some (.int (nI (tAll (S0 2) T))), none, none, none, none, none, none, none, none, none] [.int (nI (T + 1)), .int y] S0 R (PA S0 R n) := by
    refine Y_lookS (lk_low (N := T + 1) (by omega) (by omega) _) rfl rfl rfl rfl ?_
    exact D _ (Nat.le_of_lt_succ (lw_lt (by omega)))
  refine Y_ist_15_5 rfl rfl ?_
  refine Y_iload_n rfl rfl ?_
  refine Y_iload rfl rfl ?_
  refine Y_iload_n rfl rfl ?_
  refine Y_bipush rfl ?_
  refine Y_ishr rfl ?_
  refine Y_bipush rfl ?_
  refine Y_lookS (lk_low (N := 7) (by decide) (by decide) _) rfl rfl rfl rfl ?_
  by_cases h0 : nI (lw (y >>> (15 &&& 31)) 7) = 0
  · refine Y_if_eq_t rfl (h0) ?_
    refine Y_iconst rfl ?_
    refine Y_goto rfl ?_
    refine Y_iadd rfl ?_
    rw [nI_succ] at E
    exact E
  · refine Y_if_eq_f rfl (h0) ?_
    by_cases hT : T = 0
    · refine Y_iload rfl rfl ?_
      refine Y_if_ne_f rfl ((by rw [hT]; rfl)) ?_
      refine Y_iconst rfl ?_
      refine Y_goto rfl ?_
      refine Y_iadd rfl ?_
      rw [nI_succ] at E
      exact E
    · refine Y_iload rfl rfl ?_
      refine Y_if_ne_t rfl (nI_ne0 (by omega) (by omega)) ?_
      refine Y_iconst rfl ?_
      refine Y_iadd rfl ?_
      refine Y_v (Int32.add_zero _) ?_
      refine Y_lookS (lk_low (N := T) (by omega) (by omega) _) rfl rfl rfl rfl ?_
      exact D _ (Nat.le_of_lt (lw_lt (by omega)))
end ALL
