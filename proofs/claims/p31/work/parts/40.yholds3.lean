/-! holds: the loop over the points -/
section HOLDS3
variable {S0 : Sf} {R : Rf} {T n m : Nat} {π : Nat → Int32} {t p q : Nat} {P : Po} {c2 c3 c4 c5 c6 c7 c10 a11 a12 a13 a14 : Int32} {l10 l11 l12 l13 l14 l15 l16 : Option Value}
/-- no point below the first q that hangs together with p -/
noncomputable def loB (row : Nat → Int32) (p q : Nat) : Bool := decide (cnt (fun o => cB row o p) (min q p) = 0)
theorem loB_ge {row : Nat → Int32} (h : p ≤ q) : loB row p (q + 1) = loB row p q := by unfold loB; rw [Nat.min_eq_right h, Nat.min_eq_right (by omega)]
theorem loB_no {row : Nat → Int32} (h : q < p) (hc : cB row p q = false) : loB row p (q + 1) = loB row p q := by
  unfold loB
  rw [Nat.min_eq_left (show q + 1 ≤ p by omega), Nat.min_eq_left (show q ≤ p by omega), cnt_f (f := fun o => cB row o p) (n := q) (cB_sy ▸ hc)]
theorem loB_t {row : Nat → Int32} (h : q < p) (hc : cB row p q = true) : loB row p (q + 1) = false := by
  unfold loB
  rw [Nat.min_eq_left (show q + 1 ≤ p by omega), cnt_t (f := fun o => cB row o p) (n := q) (cB_sy ▸ hc), decide_eq_false_iff_not]
  omega
theorem loB_f {row : Nat → Int32} (h : loB row p q = false) : loB row p (q + 1) = false := by
  unfold loB at h ⊢
  rw [decide_eq_false_iff_not] at h ⊢
  intro e
  apply h
  exact cnt_0.mpr (fun i hi => cnt_0.mp e i (by omega))
theorem hp_low (hG : GR (S0 2) T) (hπ : Pot (S0 2) π) (hp : p < 12) (hq : q < 12) (kk : Y 0 (fun _ => 0) kLaw_holds 24 756 [some (.ref 0), some (.int (nI T)), some (.int c2), some (.int c3), some (.int c4), some (.int c5), some (.int c6), some (.int c7), some (.int 1), some (.int (nI p)), some (.int c10), some (.int (a11)), some (.int (a12)), some (.int (a13)), some (.int (b2i (loB (S0 2) p (q + 1)))), some (.int (nI q)), some (.int (fV (S0 2) π p q))] [] S0 R P) : Y 0 (fun _ => 0) kLaw_holds 24 730 [some (.ref 0), some (.int (nI T)), some (.int c2), some (.int c3), some (.int c4), some (.int c5), some (.int c6), some (.int c7), some (.int 1), some (.int (nI p)), some (.int c10), some (.int (a11)), some (.int (a12)), some (.int (a13)), some (.int (b2i (loB (S0 2) p q))), some (.int (nI q)), some (.int (fV (S0 2) π p q))] [] S0 R P := by
  cases hl : loB (S0 2) p q with
  | false =>
    rw [loB_f hl] at kk
    refine Y_iload rfl rfl ?_
    refine Y_if_eq_t rfl (rfl) ?_
    refine Y_iconst rfl ?_
    refine Y_ist_17_14 rfl rfl ?_
    exact kk
  | true =>
    refine Y_iload rfl rfl ?_
    refine Y_if_eq_f rfl ((by decide)) ?_
    by_cases h : p ≤ q
    · rw [loB_ge h, hl] at kk
      refine Y_iload rfl rfl ?_
      refine Y_iload rfl rfl ?_
      refine Y_icmp_ge_t rfl (nI_le h (by omega)) ?_
      refine Y_iconst rfl ?_
      refine Y_goto rfl ?_
      refine Y_ist_17_14 rfl rfl ?_
      exact kk
    · refine Y_iload rfl rfl ?_
      refine Y_iload rfl rfl ?_
      refine Y_icmp_ge_f rfl (nI_ge (by omega) (by omega)) ?_
      cases hc : cB (S0 2) p q with
      | false =>
        rw [loB_no (by omega) hc, hl] at kk
        refine Y_iload rfl rfl ?_
        refine Y_bipush rfl ?_
        refine Y_icmp_ne_f rfl (fV_f hc) ?_
        refine Y_iconst rfl ?_
        refine Y_goto rfl ?_
        refine Y_ist_17_14 rfl rfl ?_
        exact kk
      | true =>
        rw [loB_t (by omega) hc] at kk
        refine Y_iload rfl rfl ?_
        refine Y_bipush rfl ?_
        refine Y_icmp_ne_t rfl (fV_ne hG hπ (by omega) (by omega) hc) ?_
        refine Y_iconst rfl ?_
        refine Y_ist_17_14 rfl rfl ?_
        exact kk
theorem hp_first (hG : GR (S0 2) T) (hπ : Pot (S0 2) π) (hp : p < 12) (hq : q < 12) (kk : Y 0 (fun _ => 0) kLaw_holds 24 730 [some (.ref 0), some (.int (nI T)), some (.int c2), some (.int c3), some (.int c4), some (.int c5), some (.int c6), some (.int c7), some (.int 1), some (.int (nI p)), some (.int c10), some (.int (a11)), some (.int (a12)), some (.int (-(pF (S0 2) π p (q + 1)))), some (.int (a14)), some (.int (nI q)), some (.int (fV (S0 2) π p q))] [] S0 R P) : Y 0 (fun _ => 0) kLaw_holds 24 701 [some (.ref 0), some (.int (nI T)), some (.int c2), some (.int c3), some (.int c4), some (.int c5), some (.int c6), some (.int c7), some (.int 1), some (.int (nI p)), some (.int c10), some (.int (a11)), some (.int (a12)), some (.int (-(pF (S0 2) π p q))), some (.int (a14)), some (.int (nI q)), some (.int (fV (S0 2) π p q))] [] S0 R P := by
  rw [pF] at kk
  cases hc : cB (S0 2) p q with
  | false =>
    rw [hc, Bool.false_and, cond_false] at kk
    refine Y_iload rfl rfl ?_
    refine Y_bipush rfl ?_
    refine Y_icmp_eq_t rfl (fV_f hc) ?_
    refine Y_iload rfl rfl ?_
    refine Y_ist_17_13 rfl rfl ?_
    exact kk
  | true =>
    rw [hc, Bool.true_and] at kk
    have hf := far_b hG hπ (x := p) (y := q) (by omega) (by omega) hc
    have hb := pF_b hG hπ hp q (by omega)
    have hs := pi_sw hG hπ (x := p) (y := q) (by omega) (by omega) hc
    have e : fV (S0 2) π p q - 100000 = π q - π p := by rw [fV_t hc]; grind
    refine Y_iload rfl rfl ?_
    refine Y_bipush rfl ?_
    refine Y_icmp_eq_f rfl (fV_ne hG hπ (by omega) (by omega) hc) ?_
    refine Y_iload rfl rfl ?_
    refine Y_ldc rfl ?_
    refine Y_isub rfl ?_
    refine Y_v e ?_
    by_cases h : pF (S0 2) π p q < π p - π q
    · rw [decide_eq_true h, cond_true, show -(π p - π q) = π q - π p by grind] at kk
      rw [Int32.lt_iff_toInt_lt] at h
      refine Y_iload rfl rfl ?_
      refine Y_icmp_ge_f rfl ((by rw [Int32.le_iff_toInt_le, tI_neg (by omega) (by omega)]; omega)) ?_
      refine Y_iload rfl rfl ?_
      refine Y_ldc rfl ?_
      refine Y_isub rfl ?_
      refine Y_v e ?_
      refine Y_goto rfl ?_
      refine Y_ist_17_13 rfl rfl ?_
      exact kk
    · rw [decide_eq_false h, cond_false] at kk
      rw [Int32.lt_iff_toInt_lt] at h
      refine Y_iload rfl rfl ?_
      refine Y_icmp_ge_t rfl ((by rw [Int32.le_iff_toInt_le, tI_neg (by omega) (by omega)]; omega)) ?_
      refine Y_iload rfl rfl ?_
      refine Y_ist_17_13 rfl rfl ?_
      exact kk
theorem hp_ahead (hG : GR (S0 2) T) (hπ : Pot (S0 2) π) (hp : p < 12) (hq : q < 12) (kk : Y 0 (fun _ => 0) kLaw_holds 24 701 [some (.ref 0), some (.int (nI T)), some (.int c2), some (.int c3), some (.int c4), some (.int c5), some (.int c6), some (.int c7), some (.int 1), some (.int (nI p)), some (.int c10), some (.int (nI (pA (S0 2) π p (q + 1)))), some (.int (a12)), some (.int (a13)), some (.int (a14)), some (.int (nI q)), some (.int (fV (S0 2) π p q))] [] S0 R P) : Y 0 (fun _ => 0) kLaw_holds 24 663 [some (.ref 0), some (.int (nI T)), some (.int c2), some (.int c3), some (.int c4), some (.int c5), some (.int c6), some (.int c7), some (.int 1), some (.int (nI p)), some (.int c10), some (.int (nI (pA (S0 2) π p q))), some (.int (a12)), some (.int (a13)), some (.int (a14)), some (.int (nI q)), some (.int (fV (S0 2) π p q))] [] S0 R P := by
  cases hc : cB (S0 2) p q with
  | false =>
    rw [show pA (S0 2) π p (q + 1) = pA (S0 2) π p q from cnt_f (by rw [hc]; rfl)] at kk
    refine Y_iload rfl rfl ?_
    refine Y_iload rfl rfl ?_
    refine Y_bipush rfl ?_
    refine Y_icmp_eq_t rfl (fV_f hc) ?_
    refine Y_iconst rfl ?_
    refine Y_iadd rfl ?_
    refine Y_v (Int32.add_zero _) ?_
    refine Y_ist_17_11 rfl rfl ?_
    exact kk
  | true =>
    have hf := fV_I hG hπ (x := p) (y := q) (by omega) (by omega) hc
    refine Y_iload rfl rfl ?_
    refine Y_iload rfl rfl ?_
    refine Y_bipush rfl ?_
    refine Y_icmp_eq_f rfl (fV_ne hG hπ (by omega) (by omega) hc) ?_
    by_cases h1 : π q - π p < 0
    · rw [show pA (S0 2) π p (q + 1) = pA (S0 2) π p q + 1 from cnt_t (by rw [hc, decide_eq_true h1]; rfl), nI_succ] at kk
      rw [Int32.lt_iff_toInt_lt, tI_0] at h1
      refine Y_iload rfl rfl ?_
      refine Y_ldc rfl ?_
      refine Y_icmp_lt_t rfl ((by rw [Int32.lt_iff_toInt_lt, hf.1, tI_100k]; omega)) ?_
      refine Y_iconst rfl ?_
      refine Y_goto rfl ?_
      refine Y_iadd rfl ?_
      refine Y_ist_17_11 rfl rfl ?_
      exact kk
    · have h1' := h1
      rw [Int32.lt_iff_toInt_lt, tI_0] at h1'
      refine Y_iload rfl rfl ?_
      refine Y_ldc rfl ?_
      refine Y_icmp_lt_f rfl ((by rw [Int32.lt_iff_toInt_lt, hf.1, tI_100k]; omega)) ?_
      by_cases h2 : π q - π p = 0
      · refine Y_iload rfl rfl ?_
        refine Y_ldc rfl ?_
        refine Y_icmp_ne_f rfl ((by rw [fV_t hc, h2]; decide)) ?_
        by_cases h3 : q < p
        · rw [show pA (S0 2) π p (q + 1) = pA (S0 2) π p q + 1 from cnt_t (by rw [hc, decide_eq_true h2, decide_eq_true h3, Bool.true_and, Bool.true_and, Bool.or_true]), nI_succ] at kk
          refine Y_iload rfl rfl ?_
          refine Y_iload rfl rfl ?_
          refine Y_icmp_ge_f rfl (nI_ge h3 (by omega)) ?_
          refine Y_iconst rfl ?_
          refine Y_goto rfl ?_
          refine Y_iadd rfl ?_
          refine Y_ist_17_11 rfl rfl ?_
          exact kk
        · rw [show pA (S0 2) π p (q + 1) = pA (S0 2) π p q from cnt_f (by rw [decide_eq_false h1, decide_eq_false h3, Bool.and_false, Bool.or_false, Bool.and_false])] at kk
          refine Y_iload rfl rfl ?_
          refine Y_iload rfl rfl ?_
          refine Y_icmp_ge_t rfl (nI_le (by omega) (by omega)) ?_
          refine Y_iconst rfl ?_
          refine Y_iadd rfl ?_
          refine Y_v (Int32.add_zero _) ?_
          refine Y_ist_17_11 rfl rfl ?_
          exact kk
      · rw [show pA (S0 2) π p (q + 1) = pA (S0 2) π p q from cnt_f (by rw [decide_eq_false h1, decide_eq_false h2, Bool.false_and, Bool.or_false, Bool.and_false])] at kk
        have h2' : ¬ (π q - π p).toInt = 0 := fun q9 => h2 (Int32.toInt_inj.mp (by rw [q9]; decide))
        refine Y_iload rfl rfl ?_
        refine Y_ldc rfl ?_
        refine Y_icmp_ne_t rfl (ne_I (by rw [hf.1, tI_100k]; omega)) ?_
        refine Y_iconst rfl ?_
        refine Y_iadd rfl ?_
        refine Y_v (Int32.add_zero _) ?_
        refine Y_ist_17_11 rfl rfl ?_
        exact kk
theorem hp_with (hG : GR (S0 2) T) (hπ : Pot (S0 2) π) (hp : p < 12) (hq : q < 12) (kk : Y 0 (fun _ => 0) kLaw_holds 24 663 [some (.ref 0), some (.int (nI T)), some (.int c2), some (.int c3), some (.int c4), some (.int c5), some (.int c6), some (.int c7), some (.int 1), some (.int (nI p)), some (.int c10), some (.int (a11)), some (.int (nI (pW (S0 2) p 0 (q + 1)))), some (.int (a13)), some (.int (a14)), some (.int (nI q)), some (.int (fV (S0 2) π p q))] [] S0 R P) : Y 0 (fun _ => 0) kLaw_holds 24 646 [some (.ref 0), some (.int (nI T)), some (.int c2), some (.int c3), some (.int c4), some (.int c5), some (.int c6), some (.int c7), some (.int 1), some (.int (nI p)), some (.int c10), some (.int (a11)), some (.int (nI (pW (S0 2) p 0 q))), some (.int (a13)), some (.int (a14)), some (.int (nI q)), some (.int (fV (S0 2) π p q))] [] S0 R P := by
  cases hc : cB (S0 2) p q with
  | false =>
    rw [show pW (S0 2) p 0 (q + 1) = pW (S0 2) p 0 q from cnt_f (by rw [Nat.zero_add]; exact hc)] at kk
    refine Y_iload rfl rfl ?_
    refine Y_iload rfl rfl ?_
    refine Y_bipush rfl ?_
    refine Y_icmp_ne_f rfl (fV_f hc) ?_
    refine Y_iconst rfl ?_
    refine Y_goto rfl ?_
    refine Y_iadd rfl ?_
    refine Y_v (Int32.add_zero _) ?_
    refine Y_ist_17_12 rfl rfl ?_
    exact kk
  | true =>
    rw [show pW (S0 2) p 0 (q + 1) = pW (S0 2) p 0 q + 1 from cnt_t (by rw [Nat.zero_add]; exact hc), nI_succ] at kk
    refine Y_iload rfl rfl ?_
    refine Y_iload rfl rfl ?_
    refine Y_bipush rfl ?_
    refine Y_icmp_ne_t rfl (fV_ne hG hπ (by omega) (by omega) hc) ?_
    refine Y_iconst rfl ?_
    refine Y_iadd rfl ?_
    refine Y_ist_17_12 rfl rfl ?_
    exact kk
theorem hp_is (hG : GR (S0 2) T) (hπ : Pot (S0 2) π) (hp : p < 12) (hq : q < 12) (kk : Y 0 (fun _ => 0) kLaw_holds 24 646 [some (.ref 0), some (.int (nI T)), some (.int c2), some (.int c3), some (.int c4), some (.int c5), some (.int c6), some (.int c7), some (.int 1), some (.int (nI p)), some (.int c10), some (.int (a11)), some (.int (a12)), some (.int (a13)), some (.int (a14)), some (.int (nI q)), some (.int (fV (S0 2) π p q))] [] S0 R P) : Y 0 (fun _ => 0) kLaw_holds 24 568 [some (.ref 0), some (.int (nI T)), some (.int c2), some (.int c3), some (.int c4), some (.int c5), some (.int c6), some (.int c7), some (.int 1), some (.int (nI p)), some (.int c10), some (.int (a11)), some (.int (a12)), some (.int (a13)), some (.int (a14)), some (.int (nI q)), l16] [] S0 R P := by
  refine Y_aload_n rfl rfl ?_
  refine Y_iload rfl rfl ?_
  refine Y_iload rfl rfl ?_
  refine Y_iconst rfl ?_
  refine Y_look (lk_d0 hG hπ hp hq) rfl rfl rfl rfl rfl ?_
  refine Y_ist_17_16 rfl rfl ?_
  refine Y_iload rfl rfl ?_
  refine Y_if_eq_f rfl ((by decide)) ?_
  refine Y_iload rfl rfl ?_
  refine Y_aload_n rfl rfl ?_
  refine Y_iload rfl rfl ?_
  refine Y_iload rfl rfl ?_
  refine Y_iconst rfl ?_
  refine Y_look (lk_d1 hG hπ hp hq) rfl rfl rfl rfl rfl ?_
  refine Y_icmp_ne_f rfl (rfl) ?_
  cases hc : cB (S0 2) p q with
  | false =>
    refine Y_iload rfl rfl ?_
    refine Y_bipush rfl ?_
    refine Y_icmp_ne_f rfl (fV_f hc) ?_
    refine Y_aload_n rfl rfl ?_
    refine Y_iload rfl rfl ?_
    refine Y_iload rfl rfl ?_
    refine Y_iconst rfl ?_
    refine Y_look (lk_d0 hG hπ hq hp) rfl rfl rfl rfl rfl ?_
    refine Y_bipush rfl ?_
    refine Y_icmp_ne_f rfl (fV_f (cB_sy ▸ hc)) ?_
    refine Y_goto rfl ?_
    refine Y_iconst rfl ?_
    refine Y_goto rfl ?_
    refine Y_ist_17_8 rfl rfl ?_
    exact kk
  | true =>
    refine Y_iload rfl rfl ?_
    refine Y_bipush rfl ?_
    refine Y_icmp_ne_t rfl (fV_ne hG hπ (by omega) (by omega) hc) ?_
    refine Y_aload_n rfl rfl ?_
    refine Y_iload rfl rfl ?_
    refine Y_iload rfl rfl ?_
    refine Y_iconst rfl ?_
    refine Y_look (lk_d0 hG hπ hq hp) rfl rfl rfl rfl rfl ?_
    refine Y_ldc rfl ?_
    refine Y_iload rfl rfl ?_
    refine Y_isub rfl ?_
    refine Y_icmp_ne_f rfl (fV_back hc) ?_
    refine Y_iconst rfl ?_
    refine Y_goto rfl ?_
    refine Y_ist_17_8 rfl rfl ?_
    exact kk
theorem hp_body (hG : GR (S0 2) T) (hπ : Pot (S0 2) π) (hp : p < 12) (hq : q < 12) (kk : ∀ l16, Y 0 (fun _ => 0) kLaw_holds 24 561 [some (.ref 0), some (.int (nI T)), some (.int c2), some (.int c3), some (.int c4), some (.int c5), some (.int c6), some (.int c7), some (.int 1), some (.int (nI p)), some (.int c10), some (.int (nI (pA (S0 2) π p (q + 1)))), some (.int (nI (pW (S0 2) p 0 (q + 1)))), some (.int (-(pF (S0 2) π p (q + 1)))), some (.int (b2i (loB (S0 2) p (q + 1)))), some (.int (nI (q + 1))), l16] [] S0 R P) : Y 0 (fun _ => 0) kLaw_holds 24 561 [some (.ref 0), some (.int (nI T)), some (.int c2), some (.int c3), some (.int c4), some (.int c5), some (.int c6), some (.int c7), some (.int 1), some (.int (nI p)), some (.int c10), some (.int (nI (pA (S0 2) π p q))), some (.int (nI (pW (S0 2) p 0 q))), some (.int (-(pF (S0 2) π p q))), some (.int (b2i (loB (S0 2) p q))), some (.int (nI q)), l16] [] S0 R P := by
  refine Y_iload rfl rfl ?_
  refine Y_bipush rfl ?_
  refine Y_icmp_ge_f rfl (nI_ge hq (by decide)) ?_
  refine hp_is hG hπ hp hq (hp_with hG hπ hp hq (hp_ahead hG hπ hp hq (hp_first hG hπ hp hq (hp_low hG hπ hp hq ?_))))
  refine Y_inc_17_15 rfl rfl ?_
  refine Y_goto rfl ?_
  have := kk (some (.int (fV (S0 2) π p q)))
  rw [nI_succ q] at this
  exact this
end HOLDS3
