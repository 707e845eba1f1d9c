/-! the law's deeds: what comes first; shift -/
/-- a tape's readings, its least and its greatest one, as the law has them -/
def TD (row : Nat → Int32) (T t : Nat) (I a b : Int32) : Prop :=
  (t = T ∧ I = 0 ∧ a = 0 ∧ b = 0) ∨ (t < T ∧ tOf row (nI t) 12 = 0 ∧ I = 0 ∧ a = 0 ∧ b = 0) ∨
  (t < T ∧ I = nI (tOf row (nI t) 12) ∧ ∃ q1 q2, q1 < 12 ∧ q2 < 12 ∧ hs row (t * 12 + q1) = true ∧ hs row (t * 12 + q2) = true ∧ tBest row (nI t) ltI 12 = nI q1 ∧ tBest row (nI t) gtI 12 = nI q2 ∧ a = row (t * 12 + q1) ∧ b = row (t * 12 + q2))
section DEED
variable {S0 : Sf} {R : Rf} {T n m : Nat} {π row : Nat → Int32} {t p q : Nat} {y how x I a b : Int32} {l3 l4 l5 l6 l7 l8 l9 l10 l11 l12 l13 l14 l15 l16 l17 l18 : Option Value}
theorem tBest_lt (ht : t < 8) : ∀ n, n ≤ 12 → ∀ q, q < n → tBest row (nI t) ltI n = nI q → ∀ i, i < n → hs row (t * 12 + i) = true → row (t * 12 + q) ≤ row (t * 12 + i)
  | 0, _, q, hq, _, _, _, _ => absurd hq (by omega)
  | n + 1, hn, q, hq, hb, i, hi, hh => by
    cases hx : hs row (t * 12 + n) with
    | false =>
      rw [tB_keep ht (by omega) hx] at hb
      have hi' : i < n := by
        by_cases e : i = n
        · rw [e, hx] at hh; cases hh
        · omega
      rcases tBest_ix ht ltI n (by omega) with ⟨e4, -⟩ | ⟨r, hr, -, er⟩
      · rw [e4] at hb; exact absurd hb.symm (nI_n4 (by omega))
      · have : r = q := (nI_eq (by omega) (by omega)).mp (er.symm.trans hb)
        subst this
        exact tBest_lt ht n (by omega) r hr hb i hi' hh
    | true =>
      rcases tBest_ix ht ltI n (by omega) with ⟨e4, hno⟩ | ⟨r, hr, hr2, er⟩
      · rw [tB_first ht (by omega) hx e4] at hb
        have : n = q := (nI_eq (by omega) (by omega)).mp hb
        subst this
        have hin : i = n := by
          by_cases e : i = n
          · exact e
          · rw [hno i (by omega)] at hh; cases hh
        subst hin
        exact Int32.le_refl _
      · have ih := tBest_lt ht n (by omega) r hr er
        cases hl : ltI (row (t * 12 + n)) (row (t * 12 + r)) with
        | true =>
          rw [tB_lt ht (by omega) (by omega) hx er hl] at hb
          have : n = q := (nI_eq (by omega) (by omega)).mp hb
          subst this
          unfold ltI at hl
          rw [decide_eq_true_eq, Int32.not_le] at hl
          by_cases e : i = n
          · subst e; exact Int32.le_refl _
          · exact Int32.le_trans (Int32.le_of_lt hl) (ih i (by omega) hh)
        | false =>
          rw [tB_nlt ht (by omega) (by omega) hx er hl] at hb
          have : r = q := (nI_eq (by omega) (by omega)).mp hb
          subst this
          unfold ltI at hl
          rw [decide_eq_false_iff_not, Decidable.not_not] at hl
          by_cases e : i = n
          · subst e; exact hl
          · exact ih i (by omega) hh
theorem TD_ex (hG : GR row T) (ht : t ≤ T) : ∃ I a b, TD row T t I a b := by
  by_cases h1 : t = T
  · exact ⟨0, 0, 0, Or.inl ⟨h1, rfl, rfl, rfl⟩⟩
  · by_cases h2 : tOf row (nI t) 12 = 0
    · exact ⟨0, 0, 0, Or.inr (Or.inl ⟨by omega, h2, rfl, rfl, rfl⟩)⟩
    · have h8 := hG.1.2.1
      have hx : ∃ q, q < 12 ∧ hs row (t * 12 + q) = true := Classical.byContradiction fun hn => by
        apply h2
        rw [tOf_hsn (by omega) 12 (Nat.le_refl 12)]
        exact cnt_0.mpr (fun i hi => by
          cases hz : hs row (t * 12 + i) with
          | false => rfl
          | true => exact absurd ⟨i, hi, hz⟩ hn)
      obtain ⟨q, hq, hh⟩ := hx
      obtain ⟨q1, a1, a2, a3⟩ := tB_some (show t < 8 by omega) ltI hq hh
      obtain ⟨q2, b1, b2, b3⟩ := tB_some (show t < 8 by omega) gtI hq hh
      exact ⟨_, _, _, Or.inr (Or.inr ⟨by omega, rfl, q1, q2, a1, b1, a2, b2, a3, b3, rfl, rfl⟩)⟩
theorem dd_start (hH : HI S0 R n) (hG : GR (S0 2) T) (hπ : Pot (S0 2) π) (hP : PD S0 m) (ht : t = lw y (T + 1)) (hD : TD (S0 2) T t I a b) (kk : Y 0 (fun _ => 0) kLaw_deeds 24 115 [some (.ref 0), some (.int how), some (.int y), some (.int (nI T)), some (.int (nI t)), some (.int (b2i (decide (t = T)))), some (.int (S0 2 98)), some (.int (nI (tAll (S0 2) T))), some (.int I), some (.int a), some (.int b), none, none, none, none, none, none, none, none] [] S0 R (PA S0 R n)) : Y 0 (fun _ => 0) kLaw_deeds 24 0 [some (.ref 0), some (.int how), some (.int y), none, none, none, none, none, none, none, none, none, none, none, none, none, none, none, none] [] S0 R (PA S0 R n) := by
  have h8 := hG.1.2.1
  have htT : t ≤ T := by have := lw_lt (v := y) (n := T + 1) (by omega); omega
  refine Y_aload_n rfl rfl ?_
  refine Y_iconst rfl ?_
  refine Y_look (lk_c0 hG hπ hP.1 hH.2.1) rfl rfl rfl rfl rfl ?_
  refine Y_ist_19_3 rfl rfl ?_
  refine Y_iload_n rfl rfl ?_
  refine Y_iload_n rfl rfl ?_
  refine Y_iconst rfl ?_
  refine Y_iadd rfl ?_
  refine Y_v (nI_1 T) ?_
  refine Y_lookS (lk_low (N := T + 1) (by omega) (by omega) _) rfl rfl rfl rfl ?_
  rw [← ht]
  rcases hD with ⟨e, rfl, rfl, rfl⟩ | ⟨e, e0, rfl, rfl, rfl⟩ | ⟨e, rfl, q1, q2, a1, a2, a3, a4, a5, a6, rfl, rfl⟩
  · rw [decide_eq_true e] at kk
    refine Y_ist_19_4 rfl rfl ?_
    refine Y_iload rfl rfl ?_
    refine Y_iload_n rfl rfl ?_
    refine Y_icmp_ne_f rfl (congrArg nI e) ?_
    refine Y_iconst rfl ?_
    refine Y_goto rfl ?_
    refine Y_ist_19_5 rfl rfl ?_
    refine Y_aload_n rfl rfl ?_
    refine Y_bipush rfl ?_
    refine Y_look (lk_c9 hG hπ hP.1 hH.2.1) rfl rfl rfl rfl rfl ?_
    refine Y_ist_19_6 rfl rfl ?_
    refine Y_aload_n rfl rfl ?_
    refine Y_iconst rfl ?_
    refine Y_look (lk_c1 hG hπ hP.1 hH.2.1) rfl rfl rfl rfl rfl ?_
    refine Y_ist_19_7 rfl rfl ?_
    refine Y_iload rfl rfl ?_
    refine Y_if_eq_f rfl ((by decide)) ?_
    refine Y_iconst rfl ?_
    refine Y_goto rfl ?_
    refine Y_ist_19_8 rfl rfl ?_
    refine Y_iload rfl rfl ?_
    refine Y_if_ne_f rfl (rfl) ?_
    refine Y_iconst rfl ?_
    refine Y_goto rfl ?_
    refine Y_ist_19_9 rfl rfl ?_
    refine Y_iload rfl rfl ?_
    refine Y_if_ne_f rfl (rfl) ?_
    refine Y_iconst rfl ?_
    refine Y_goto rfl ?_
    refine Y_ist_19_10 rfl rfl ?_
    exact kk
  · rw [decide_eq_false (show ¬ t = T by omega)] at kk
    refine Y_ist_19_4 rfl rfl ?_
    refine Y_iload rfl rfl ?_
    refine Y_iload_n rfl rfl ?_
    refine Y_icmp_ne_t rfl ((fun q => absurd ((nI_eq (by omega) (by omega)).mp q) (by omega))) ?_
    refine Y_iconst rfl ?_
    refine Y_ist_19_5 rfl rfl ?_
    refine Y_aload_n rfl rfl ?_
    refine Y_bipush rfl ?_
    refine Y_look (lk_c9 hG hπ hP.1 hH.2.1) rfl rfl rfl rfl rfl ?_
    refine Y_ist_19_6 rfl rfl ?_
    refine Y_aload_n rfl rfl ?_
    refine Y_iconst rfl ?_
    refine Y_look (lk_c1 hG hπ hP.1 hH.2.1) rfl rfl rfl rfl rfl ?_
    refine Y_ist_19_7 rfl rfl ?_
    refine Y_iload rfl rfl ?_
    refine Y_if_eq_t rfl (rfl) ?_
    refine Y_aload_n rfl rfl ?_
    refine Y_iload rfl rfl ?_
    refine Y_iconst rfl ?_
    refine Y_look ((lk_t0 hG e).v (y := 0) (by rw [e0]; rfl)) rfl rfl rfl rfl rfl ?_
    refine Y_ist_19_8 rfl rfl ?_
    refine Y_iload rfl rfl ?_
    refine Y_if_ne_f rfl (rfl) ?_
    refine Y_iconst rfl ?_
    refine Y_goto rfl ?_
    refine Y_ist_19_9 rfl rfl ?_
    refine Y_iload rfl rfl ?_
    refine Y_if_ne_f rfl (rfl) ?_
    refine Y_iconst rfl ?_
    refine Y_goto rfl ?_
    refine Y_ist_19_10 rfl rfl ?_
    exact kk
  · rw [decide_eq_false (show ¬ t = T by omega)] at kk
    have hI : ¬ nI (tOf (S0 2) (nI t) 12) = 0 := tOf_n0 (by omega) a1 a3
    have r1 : rv (S0 2) (t * 12 + q1) - 100000 = S0 2 (t * 12 + q1) := by rw [rv_t a3]; grind
    have r2 : rv (S0 2) (t * 12 + q2) - 100000 = S0 2 (t * 12 + q2) := by rw [rv_t a4]; grind
    refine Y_ist_19_4 rfl rfl ?_
    refine Y_iload rfl rfl ?_
    refine Y_iload_n rfl rfl ?_
    refine Y_icmp_ne_t rfl ((fun q => absurd ((nI_eq (by omega) (by omega)).mp q) (by omega))) ?_
    refine Y_iconst rfl ?_
    refine Y_ist_19_5 rfl rfl ?_
    refine Y_aload_n rfl rfl ?_
    refine Y_bipush rfl ?_
    refine Y_look (lk_c9 hG hπ hP.1 hH.2.1) rfl rfl rfl rfl rfl ?_
    refine Y_ist_19_6 rfl rfl ?_
    refine Y_aload_n rfl rfl ?_
    refine Y_iconst rfl ?_
    refine Y_look (lk_c1 hG hπ hP.1 hH.2.1) rfl rfl rfl rfl rfl ?_
    refine Y_ist_19_7 rfl rfl ?_
    refine Y_iload rfl rfl ?_
    refine Y_if_eq_t rfl (rfl) ?_
    refine Y_aload_n rfl rfl ?_
    refine Y_iload rfl rfl ?_
    refine Y_iconst rfl ?_
    refine Y_look (lk_t0 hG e) rfl rfl rfl rfl rfl ?_
    refine Y_ist_19_8 rfl rfl ?_
    refine Y_iload rfl rfl ?_
    refine Y_if_ne_t rfl (hI) ?_
    refine Y_aload_n rfl rfl ?_
    refine Y_iload rfl rfl ?_
    refine Y_aload_n rfl rfl ?_
    refine Y_iload rfl rfl ?_
    refine Y_iconst rfl ?_
    refine Y_look ((lk_t1 hG e).v a5) rfl rfl rfl rfl rfl ?_
    refine Y_look (lk_reading hG e a1) rfl rfl rfl rfl rfl ?_
    refine Y_ldc rfl ?_
    refine Y_isub rfl ?_
    refine Y_v r1 ?_
    refine Y_ist_19_9 rfl rfl ?_
    refine Y_iload rfl rfl ?_
    refine Y_if_ne_t rfl (hI) ?_
    refine Y_aload_n rfl rfl ?_
    refine Y_iload rfl rfl ?_
    refine Y_aload_n rfl rfl ?_
    refine Y_iload rfl rfl ?_
    refine Y_iconst rfl ?_
    refine Y_look ((lk_t2 hG e).v a6) rfl rfl rfl rfl rfl ?_
    refine Y_look (lk_reading hG e a2) rfl rfl rfl rfl rfl ?_
    refine Y_ldc rfl ?_
    refine Y_isub rfl ?_
    refine Y_v r2 ?_
    refine Y_ist_19_10 rfl rfl ?_
    exact kk
/-! shift -/
variable {v : Int32} {c12 : Int32} {P : Po}
theorem sh_can (kk : Y 0 (fun _ => 0) kLaw_deeds 24 228 [l3, l4, l5, l6, l7, l14, l15, l16, some (.int I), some (.int a), some (.int b), some (.int v), some (.int c12), some (.int (b2i (decide (I = 0) || (decide (¬ a + v < -999) && decide (¬ 999 < b + v))))), l17, l18, l8, l9, l10] [] S0 R P) : Y 0 (fun _ => 0) kLaw_deeds 24 194 [l3, l4, l5, l6, l7, l14, l15, l16, some (.int I), some (.int a), some (.int b), some (.int v), some (.int c12), l11, l17, l18, l8, l9, l10] [] S0 R P := by
  by_cases h0 : I = 0
  · rw [decide_eq_true h0, Bool.true_or] at kk
    refine Y_iload rfl rfl ?_
    refine Y_if_eq_t rfl (h0) ?_
    refine Y_iconst rfl ?_
    refine Y_goto rfl ?_
    refine Y_ist_19_13 rfl rfl ?_
    exact kk
  · rw [decide_eq_false h0, Bool.false_or] at kk
    refine Y_iload rfl rfl ?_
    refine Y_if_eq_f rfl (h0) ?_
    by_cases h1 : a + v < -999
    · rw [decide_eq_false (p := ¬ a + v < -999) (fun q => q h1), Bool.false_and] at kk
      refine Y_iload rfl rfl ?_
      refine Y_iload rfl rfl ?_
      refine Y_iadd rfl ?_
      refine Y_sipush rfl ?_
      refine Y_icmp_lt_t rfl (h1) ?_
      refine Y_iconst rfl ?_
      refine Y_ist_19_13 rfl rfl ?_
      exact kk
    · rw [decide_eq_true h1, Bool.true_and] at kk
      refine Y_iload rfl rfl ?_
      refine Y_iload rfl rfl ?_
      refine Y_iadd rfl ?_
      refine Y_sipush rfl ?_
      refine Y_icmp_lt_f rfl (h1) ?_
      by_cases h2 : 999 < b + v
      · rw [decide_eq_false (p := ¬ 999 < b + v) (fun q => q h2)] at kk
        refine Y_iload rfl rfl ?_
        refine Y_iload rfl rfl ?_
        refine Y_iadd rfl ?_
        refine Y_sipush rfl ?_
        refine Y_icmp_gt_t rfl (h2) ?_
        refine Y_iconst rfl ?_
        refine Y_ist_19_13 rfl rfl ?_
        exact kk
      · rw [decide_eq_true h2] at kk
        refine Y_iload rfl rfl ?_
        refine Y_iload rfl rfl ?_
        refine Y_iadd rfl ?_
        refine Y_sipush rfl ?_
        refine Y_icmp_gt_f rfl (h2) ?_
        refine Y_iconst rfl ?_
        refine Y_goto rfl ?_
        refine Y_ist_19_13 rfl rfl ?_
        exact kk
theorem stay_iff (hG : GR row T) (ht : t < T) (hD : TD row T t I a b) (hv : isNb v = true) : cnt (stayB row t v) 12 = 0 ↔ (decide (I = 0) || (decide (¬ a + v < -999) && decide (¬ 999 < b + v))) = true := by
  have h8 := hG.1.2.1
  have ht8 : t < 8 := by omega
  have vb := isNb_iff.mp hv
  rcases hD with ⟨e, -⟩ | ⟨e, e0, rfl, rfl, rfl⟩ | ⟨e, rfl, q1, q2, a1, a2, a3, a4, a5, a6, rfl, rfl⟩
  · omega
  · rw [tOf_hsn ht8 12 (Nat.le_refl 12)] at e0
    refine ⟨fun _ => by rw [decide_eq_true rfl]; rfl, fun _ => cnt_0.mpr (fun i hi => ?_)⟩
    unfold stayB
    rw [cnt_0.mp e0 i hi, Bool.false_and]
  · have hI : ¬ nI (tOf row (nI t) 12) = 0 := tOf_n0 ht8 a1 a3
    rw [decide_eq_false hI, Bool.false_or, Bool.and_eq_true, decide_eq_true_eq, decide_eq_true_eq]
    have b1 := isNb_iff.mp (hG.2.1 _ (show t * 12 + q1 < 96 by omega) a3)
    have b2 := isNb_iff.mp (hG.2.1 _ (show t * 12 + q2 < 96 by omega) a4)
    rw [Int32.lt_iff_toInt_lt, Int32.lt_iff_toInt_lt, tI_add (by omega) (by omega), tI_add (by omega) (by omega), show (-999 : Int32).toInt = -999 by decide, show (999 : Int32).toInt = 999 by decide]
    constructor
    · intro h
      have c1 := isNb_iff.mp (stay_nb h a1 a3)
      have c2 := isNb_iff.mp (stay_nb h a2 a4)
      rw [tI_add (by omega) (by omega)] at c1 c2
      omega
    · intro h
      refine cnt_0.mpr (fun i hi => ?_)
      unfold stayB
      cases hh : hs row (t * 12 + i) with
      | false => rfl
      | true =>
        have bi := isNb_iff.mp (hG.2.1 _ (show t * 12 + i < 96 by omega) hh)
        have m1 := tBest_lt ht8 12 (Nat.le_refl 12) q1 a1 a5 i hi hh
        have m2 := tBest_gt ht8 12 (Nat.le_refl 12) q2 a2 a6 i hi hh
        rw [Int32.le_iff_toInt_le] at m1 m2
        rw [Bool.true_and, Bool.not_eq_false', isNb_iff, tI_add (by omega) (by omega)]
        omega
/-- the least one behind a shift -/
theorem sh_min {row' : Nat → Int32} {d : Int32} (hG : GR row T) (hG' : GR row' T) (ht : t < T) (hq : q < 12) (hh : hs row (t * 12 + q) = true) (hb : tBest row (nI t) ltI 12 = nI q) (hs' : ∀ i, i < 12 → hs row' (t * 12 + i) = hs row (t * 12 + i)) (hv : ∀ i, i < 12 → hs row (t * 12 + i) = true → row' (t * 12 + i) = row (t * 12 + i) + d) (hd : -999 ≤ d.toInt ∧ d.toInt ≤ 999) : ∃ r, r < 12 ∧ tBest row' (nI t) ltI 12 = nI r ∧ rv row' (t * 12 + r) = 100000 + (row (t * 12 + q) + d) := by
  have h8 := hG.1.2.1
  have ht8 : t < 8 := by omega
  obtain ⟨r, r1, r2, r3⟩ := tB_some (row := row') ht8 ltI hq ((hs' q hq).trans hh)
  refine ⟨r, r1, r3, ?_⟩
  have hr := r2
  rw [hs' r r1] at hr
  have m1 := tBest_lt ht8 12 (Nat.le_refl 12) r r1 r3 q hq ((hs' q hq).trans hh)
  have m2 := tBest_lt ht8 12 (Nat.le_refl 12) q hq hb r r1 hr
  have b1 := isNb_iff.mp (hG.2.1 _ (show t * 12 + q < 96 by omega) hh)
  have b2 := isNb_iff.mp (hG.2.1 _ (show t * 12 + r < 96 by omega) hr)
  rw [hv r r1 hr, hv q hq hh, Int32.le_iff_toInt_le, tI_add (by omega) (by omega), tI_add (by omega) (by omega)] at m1
  rw [Int32.le_iff_toInt_le] at m2
  have e : row (t * 12 + r) = row (t * 12 + q) := Int32.toInt_inj.mp (by omega)
  rw [rv_t r2, hv r r1 hr, e]
theorem sh_good (hH : HI S0 R n) (hG : GR (S0 2) T) (hπ : Pot (S0 2) π) (hP : PD S0 m) (ht : t < T) (hD : TD (S0 2) T t I a b) (hv : isNb v = true) (l14 : Option Value) : Y 0 (fun _ => 0) kLaw_deeds 24 228 [some (.ref 0), some (.int how), some (.int y), some (.int (nI T)), some (.int (nI t)), some (.int (b2i (decide (t = T)))), some (.int (S0 2 98)), some (.int (nI (tAll (S0 2) T))), some (.int I), some (.int a), some (.int b), some (.int v), some (.int 0), some (.int (b2i (decide (I = 0) || (decide (¬ a + v < -999) && decide (¬ 999 < b + v))))), l14, l15, l16, l17, l18] [] S0 R (PA S0 R n) := by
  have hn4 := hH.2.2.1
  have h8 := hG.1.2.1
  have ht8 : t < 8 := by omega
  have vb := isNb_iff.mp hv
  have hsi := stay_iff hG ht hD hv
  refine Y_aload_n rfl rfl ?_
  refine Y_iload rfl rfl ?_
  refine Y_iload rfl rfl ?_
  refine Y_deed (md_shift hH hG ht hv) rfl rfl rfl rfl rfl (fun w S1 R1 hQ => ?_)
  obtain ⟨rfl, dx⟩ := hQ
  have hn1 := DX_n dx
  by_cases h0 : cnt (stayB (S0 2) t v) 12 = 0
  · rw [shW, if_pos h0] at dx
    rw [shA, if_pos h0, hsi.mp h0]
    have hg := GR_shift hG ht h0
    have ac := DX_AC hH hG hP dx hg
    have e2 := dx.2.1
    have hG1 : GR (S1 2) T := by rw [e2]; exact hg
    obtain ⟨π1, hπ1⟩ := hG1.2.2.1
    obtain ⟨m1, hm1, -⟩ := ac.2.2.2.1
    have hhs := sh_hs hG.2.1 h0 ht8
    have eo : tOf (shR (S0 2) t v 12) (nI t) 12 = tOf (S0 2) (nI t) 12 := by
      rw [tOf_hsn ht8 12 (Nat.le_refl 12), tOf_hsn ht8 12 (Nat.le_refl 12)]
      exact cnt_congr (fun i _ => hhs _)
    have hto := tOf_le (row := S0 2) (t := t) 12
    have eI : I = nI (tOf (S0 2) (nI t) 12) := by
      rcases hD with ⟨e, -⟩ | ⟨-, e0, e, -⟩ | ⟨-, e, -⟩
      · omega
      · rw [e, e0]; rfl
      · exact e
    rw [eo, ← eI]
    refine Y_ist_19_14 rfl rfl ?_
    refine Y_iload rfl rfl ?_
    refine Y_iload rfl rfl ?_
    refine Y_if_eq_t rfl (rfl) ?_
    refine Y_iload rfl rfl ?_
    refine Y_if_eq_f rfl ((by decide)) ?_
    refine Y_bipush rfl ?_
    refine Y_iload rfl rfl ?_
    refine Y_iadd rfl ?_
    refine Y_goto rfl ?_
    refine Y_icmp_ne_f rfl (rfl) ?_
    refine Y_aload_n rfl rfl ?_
    refine Y_bipush rfl ?_
    refine Y_look (lk_c9 hG1 hπ1 hm1 hn1) rfl rfl rfl rfl rfl ?_
    refine Y_iload rfl rfl ?_
    refine Y_iload rfl rfl ?_
    refine Y_iconst rfl ?_
    refine Y_icmp_ne_t rfl ((by rw [eI, show (10 : Int32) + nI (tOf (S0 2) (nI t) 12) = nI (10 + tOf (S0 2) (nI t) 12) from nI_add 10 _]; exact fun e => by have := (nI_eq (b := 4) (by omega) (by decide)).mp e; omega)) ?_
    refine Y_iconst rfl ?_
    refine Y_iadd rfl ?_
    refine Y_v (Int32.add_zero _) ?_
    refine Y_icmp_ne_f rfl ((by rw [e2, shR_val, if_neg (by omega)])) ?_
    refine Y_iload rfl rfl ?_
    refine Y_if_ne_f rfl (rfl) ?_
    rcases hD with ⟨e, -⟩ | ⟨-, e0, e, -⟩ | ⟨-, e, q1, q2, a1, a2, a3, a4, a5, a6, eqa, eqb⟩
    · omega
    · refine Y_iload rfl rfl ?_
      refine Y_if_eq_t rfl (e) ?_
      refine Y_iconst rfl ?_
      refine Y_goto rfl ?_
      exact Y_ret rfl rfl (fun S hS => PA_ret ac hn4 S hS)
    · obtain ⟨r, r1, r2, r3⟩ := sh_min (row' := shR (S0 2) t v 12) (d := v) hG hg ht a1 a3 a5 (fun i _ => hhs _) (fun i hi hh => by rw [shR_val, if_pos ⟨by omega, by omega, hh⟩]) vb
      rw [← e2] at r2 r3
      refine Y_iload rfl rfl ?_
      refine Y_if_eq_f rfl ((by rw [e]; exact tOf_n0 ht8 a1 a3)) ?_
      refine Y_aload_n rfl rfl ?_
      refine Y_iload rfl rfl ?_
      refine Y_aload_n rfl rfl ?_
      refine Y_iload rfl rfl ?_
      refine Y_iconst rfl ?_
      refine Y_look ((lk_t1 hG1 ht).v r2) rfl rfl rfl rfl rfl ?_
      refine Y_look (lk_reading hG1 ht r1) rfl rfl rfl rfl rfl ?_
      refine Y_ldc rfl ?_
      refine Y_iload rfl rfl ?_
      refine Y_iadd rfl ?_
      refine Y_iload rfl rfl ?_
      refine Y_if_eq_f rfl ((by decide)) ?_
      refine Y_iload rfl rfl ?_
      refine Y_goto rfl ?_
      refine Y_iadd rfl ?_
      refine Y_icmp_ne_f rfl ((by rw [r3, eqa]; grind)) ?_
      refine Y_iconst rfl ?_
      refine Y_goto rfl ?_
      exact Y_ret rfl rfl (fun S hS => PA_ret ac hn4 S hS)
  · rw [shW, if_neg h0] at dx
    have ec : (decide (I = 0) || (decide (¬ a + v < -999) && decide (¬ 999 < b + v))) = false := by
      cases hc : (decide (I = 0) || (decide (¬ a + v < -999) && decide (¬ 999 < b + v))) with
      | false => rfl
      | true => exact absurd (hsi.mpr hc) h0
    rw [shA, if_neg h0, ec]
    have hg : GR (upd (S0 2) 98 (S0 2 98 + 1)) T := GR_u hG (by decide)
    have ac := DX_AC hH hG hP dx hg
    have e2 := dx.2.1
    have hG1 : GR (S1 2) T := by rw [e2]; exact hg
    obtain ⟨π1, hπ1⟩ := hG1.2.2.1
    obtain ⟨m1, hm1, -⟩ := ac.2.2.2.1
    refine Y_ist_19_14 rfl rfl ?_
    refine Y_iload rfl rfl ?_
    refine Y_iload rfl rfl ?_
    refine Y_if_eq_t rfl (rfl) ?_
    refine Y_iload rfl rfl ?_
    refine Y_if_eq_t rfl (rfl) ?_
    refine Y_iconst rfl ?_
    refine Y_icmp_ne_f rfl (rfl) ?_
    refine Y_aload_n rfl rfl ?_
    refine Y_bipush rfl ?_
    refine Y_look (lk_c9 hG1 hπ1 hm1 hn1) rfl rfl rfl rfl rfl ?_
    refine Y_iload rfl rfl ?_
    refine Y_iload rfl rfl ?_
    refine Y_iconst rfl ?_
    refine Y_icmp_ne_f rfl (rfl) ?_
    refine Y_iconst rfl ?_
    refine Y_goto rfl ?_
    refine Y_iadd rfl ?_
    refine Y_icmp_ne_f rfl ((by rw [e2, upd_same])) ?_
    refine Y_iload rfl rfl ?_
    refine Y_if_ne_f rfl (rfl) ?_
    rcases hD with ⟨e, -⟩ | ⟨-, e0, e, -⟩ | ⟨-, e, q1, q2, a1, a2, a3, a4, a5, a6, eqa, eqb⟩
    · omega
    · refine Y_iload rfl rfl ?_
      refine Y_if_eq_t rfl (e) ?_
      refine Y_iconst rfl ?_
      refine Y_goto rfl ?_
      exact Y_ret rfl rfl (fun S hS => PA_ret ac hn4 S hS)
    · obtain ⟨r, r1, r2, r3⟩ := sh_min (row' := upd (S0 2) 98 (S0 2 98 + 1)) (d := 0) hG hg ht a1 a3 a5 (fun i hi => hs_cg (upd_ne (by omega))) (fun i hi hh => by rw [upd_ne (by omega), Int32.add_zero]) (by decide)
      rw [← e2] at r2 r3
      refine Y_iload rfl rfl ?_
      refine Y_if_eq_f rfl ((by rw [e]; exact tOf_n0 ht8 a1 a3)) ?_
      refine Y_aload_n rfl rfl ?_
      refine Y_iload rfl rfl ?_
      refine Y_aload_n rfl rfl ?_
      refine Y_iload rfl rfl ?_
      refine Y_iconst rfl ?_
      refine Y_look ((lk_t1 hG1 ht).v r2) rfl rfl rfl rfl rfl ?_
      refine Y_look (lk_reading hG1 ht r1) rfl rfl rfl rfl rfl ?_
      refine Y_ldc rfl ?_
      refine Y_iload rfl rfl ?_
      refine Y_iadd rfl ?_
      refine Y_iload rfl rfl ?_
      refine Y_if_eq_t rfl (rfl) ?_
      refine Y_iconst rfl ?_
      refine Y_iadd rfl ?_
      refine Y_icmp_ne_f rfl ((by rw [r3, eqa]; grind)) ?_
      refine Y_iconst rfl ?_
      refine Y_goto rfl ?_
      exact Y_ret rfl rfl (fun S hS => PA_ret ac hn4 S hS)
theorem sh_bad (hH : HI S0 R n) (hG : GR (S0 2) T) (hπ : Pot (S0 2) π) (hP : PD S0 m) (hb : (tIs (S0 2) (nI t) && isNb v) = false) {c13 : Int32} : Y 0 (fun _ => 0) kLaw_deeds 24 228 [some (.ref 0), some (.int how), some (.int y), some (.int (nI T)), some (.int (nI t)), some (.int (b2i (decide (t = T)))), some (.int (S0 2 98)), some (.int (nI (tAll (S0 2) T))), some (.int I), some (.int a), some (.int b), some (.int v), some (.int 1), some (.int c13), l14, l15, l16, l17, l18] [] S0 R (PA S0 R n) := by
  have hn4 := hH.2.2.1
  refine Y_aload_n rfl rfl ?_
  refine Y_iload rfl rfl ?_
  refine Y_iload rfl rfl ?_
  refine Y_look (md_shift0 hb) rfl rfl rfl rfl rfl ?_
  refine Y_ist_19_14 rfl rfl ?_
  refine Y_iload rfl rfl ?_
  refine Y_iload rfl rfl ?_
  refine Y_if_eq_f rfl ((by decide)) ?_
  refine Y_iconst rfl ?_
  refine Y_goto rfl ?_
  refine Y_icmp_ne_f rfl (rfl) ?_
  refine Y_aload_n rfl rfl ?_
  refine Y_bipush rfl ?_
  refine Y_look (lk_c9 hG hπ hP.1 hH.2.1) rfl rfl rfl rfl rfl ?_
  refine Y_iload rfl rfl ?_
  refine Y_iload rfl rfl ?_
  refine Y_iconst rfl ?_
  refine Y_icmp_ne_t rfl ((by decide)) ?_
  refine Y_iconst rfl ?_
  refine Y_iadd rfl ?_
  refine Y_v (Int32.add_zero _) ?_
  refine Y_icmp_ne_f rfl (rfl) ?_
  refine Y_iload rfl rfl ?_
  refine Y_if_ne_t rfl ((by decide)) ?_
  refine Y_iconst rfl ?_
  refine Y_goto rfl ?_
  exact Y_ret rfl rfl (fun S hS => PA_ret (AC_rf hH hG hP) hn4 S hS)
theorem sh_all (hH : HI S0 R n) (hG : GR (S0 2) T) (hπ : Pot (S0 2) π) (hP : PD S0 m) (ht : t ≤ T) (hD : TD (S0 2) T t I a b) (v : Int32) : Y 0 (fun _ => 0) kLaw_deeds 24 164 [some (.ref 0), some (.int how), some (.int y), some (.int (nI T)), some (.int (nI t)), some (.int (b2i (decide (t = T)))), some (.int (S0 2 98)), some (.int (nI (tAll (S0 2) T))), some (.int I), some (.int a), some (.int b), l11, l12, l13, l14, l15, l16, l17, l18] [.int v] S0 R (PA S0 R n) := by
  have h8 := hG.1.2.1
  by_cases e : t = T
  · rw [decide_eq_true e]
    refine Y_ist_19_11 rfl rfl ?_
    refine Y_iload rfl rfl ?_
    refine Y_if_ne_t rfl ((by decide)) ?_
    refine Y_iconst rfl ?_
    refine Y_goto rfl ?_
    refine Y_ist_19_12 rfl rfl ?_
    refine sh_can ?_
    have := sh_bad (t := t) (n := n) (m := m) (y := y) (how := how) (I := I) (a := a) (b := b) (v := v) (c13 := b2i (decide (I = 0) || (decide (¬ a + v < -999) && decide (¬ 999 < b + v)))) (l14 := l14) (l15 := l15) (l16 := l16) (l17 := l17) (l18 := l18) hH hG hπ hP (by rw [e, tIs_T hG.1, Bool.false_and])
    rw [decide_eq_true e] at this
    exact this
  · have ht : t < T := by omega
    have B : isNb v = false → Y 0 (fun _ => 0) kLaw_deeds 24 228 [some (.ref 0), some (.int how), some (.int y), some (.int (nI T)), some (.int (nI t)), some (.int (b2i (decide (t = T)))), some (.int (S0 2 98)), some (.int (nI (tAll (S0 2) T))), some (.int I), some (.int a), some (.int b), some (.int v), some (.int 1), some (.int (b2i (decide (I = 0) || (decide (¬ a + v < -999) && decide (¬ 999 < b + v))))), l14, l15, l16, l17, l18] [] S0 R (PA S0 R n) := fun hb => sh_bad hH hG hπ hP (by rw [hb, Bool.and_false])
    have Gd := fun hv => sh_good (v := v) (y := y) (how := how) (l15 := l15) (l16 := l16) (l17 := l17) (l18 := l18) hH hG hπ hP ht hD hv l14
    rw [decide_eq_false e] at B Gd ⊢
    refine Y_ist_19_11 rfl rfl ?_
    refine Y_iload rfl rfl ?_
    refine Y_if_ne_f rfl (rfl) ?_
    by_cases h1 : v < -999
    · refine Y_iload rfl rfl ?_
      refine Y_sipush rfl ?_
      refine Y_icmp_lt_t rfl (h1) ?_
      refine Y_iconst rfl ?_
      refine Y_goto rfl ?_
      refine Y_ist_19_12 rfl rfl ?_
      exact sh_can (B (by unfold isNb; rw [decide_eq_false (fun q => q h1), Bool.false_and]))
    · refine Y_iload rfl rfl ?_
      refine Y_sipush rfl ?_
      refine Y_icmp_lt_f rfl (h1) ?_
      by_cases h2 : 999 < v
      · refine Y_iload rfl rfl ?_
        refine Y_sipush rfl ?_
        refine Y_icmp_le_f rfl ((Int32.not_le.mpr h2)) ?_
        refine Y_iconst rfl ?_
        refine Y_goto rfl ?_
        refine Y_ist_19_12 rfl rfl ?_
        exact sh_can (B (by unfold isNb; rw [decide_eq_false (p := ¬ 999 < v) (fun q => q h2), Bool.and_false]))
      · refine Y_iload rfl rfl ?_
        refine Y_sipush rfl ?_
        refine Y_icmp_le_t rfl ((Int32.not_lt.mp h2)) ?_
        refine Y_iconst rfl ?_
        refine Y_ist_19_12 rfl rfl ?_
        exact sh_can (Gd (by unfold isNb; rw [decide_eq_true h1, decide_eq_true h2]; rfl))
end DEED
