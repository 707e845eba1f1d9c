/-! would: from its entry -/
section WOULD2
variable {S0 : Sf} {R : Rf} {T n m : Nat} {π : Nat → Int32} {t p q o : Nat} {P : Po}
variable {x pv v c6 c7 c8 c9 c10 c11 c13 c14 : Int32} {l6 l7 l8 l9 l10 l11 l12 l13 l14 l15 : Option Value}
theorem lw_p {j : Nat} (hj : j < 14) : (nI j - 1 = -1 ∨ nI j - 1 = nI 12) ∨ ∃ p, p < 12 ∧ nI j - 1 = nI p := by
  by_cases h0 : j = 0
  · rw [h0]; exact Or.inl (Or.inl (by decide))
  · rw [show j = j - 1 + 1 by omega, nI_pred]
    by_cases h1 : j = 13
    · rw [h1]; exact Or.inl (Or.inr rfl)
    · exact Or.inr ⟨j - 1, by omega, rfl⟩
/-- the answers of the looks in between -/
theorem wd_mid (hG : GR (S0 2) T) (hπ : Pot (S0 2) π) (o : Nat) (ho : o = lw (x >>> (5 &&& 31)) (T + 1)) (kk : Y 0 (fun _ => 0) kLaw_would 24 185 [some (.ref 0), some (.int x), some (.int (nI T)), some (.int (nI t)), some (.int (pv)), some (.int v), some (.int c6), some (.int c7), some (.int (a_whyNot (S0 2) π (nI t) pv v)), some (.int (a_ifRead (S0 2) (nI t) pv)), some (.int (a_follows (S0 2) π (nI t) pv)), some (.int (a_reading (S0 2) (nI t) pv)), some (.int (a_best (S0 2) T)), some (.int (nI o)), some (.int (a_zeros (S0 2) π (nI t) (nI o))), l15] [] S0 R P) : Y 0 (fun _ => 0) kLaw_would 24 121 [some (.ref 0), some (.int x), some (.int (nI T)), some (.int (nI t)), some (.int (pv)), some (.int v), some (.int c6), some (.int c7), l8, l9, l10, l11, l12, l13, l14, l15] [] S0 R P := by
  have h8 := hG.1.2.1
  refine Y_aload_n rfl rfl ?_
  refine Y_iload_n rfl rfl ?_
  refine Y_iload rfl rfl ?_
  refine Y_iload rfl rfl ?_
  refine Y_look (lr_whyNot hG hπ (nI t) pv v) rfl rfl rfl rfl rfl ?_
  refine Y_ist_16_8 rfl rfl ?_
  refine Y_aload_n rfl rfl ?_
  refine Y_iload_n rfl rfl ?_
  refine Y_iload rfl rfl ?_
  refine Y_look (lr_ifRead hG (nI t) pv) rfl rfl rfl rfl rfl ?_
  refine Y_ist_16_9 rfl rfl ?_
  refine Y_aload_n rfl rfl ?_
  refine Y_iload_n rfl rfl ?_
  refine Y_iload rfl rfl ?_
  refine Y_look (lr_follows hG hπ (nI t) pv) rfl rfl rfl rfl rfl ?_
  refine Y_ist_16_10 rfl rfl ?_
  refine Y_aload_n rfl rfl ?_
  refine Y_iload_n rfl rfl ?_
  refine Y_iload rfl rfl ?_
  refine Y_look (lr_reading (nI t) pv) rfl rfl rfl rfl rfl ?_
  refine Y_ist_16_11 rfl rfl ?_
  refine Y_aload_n rfl rfl ?_
  refine Y_look (lk_best hG) rfl rfl rfl rfl rfl ?_
  refine Y_ist_16_12 rfl rfl ?_
  refine Y_iload_n rfl rfl ?_
  refine Y_iconst rfl ?_
  refine Y_ishr rfl ?_
  refine Y_iload_n rfl rfl ?_
  refine Y_iconst rfl ?_
  refine Y_iadd rfl ?_
  refine Y_v (nI_1 T) ?_
  refine Y_lookS (lk_low (N := T + 1) (by omega) (by omega) _) rfl rfl rfl rfl ?_
  rw [← ho]
  refine Y_ist_16_13 rfl rfl ?_
  refine Y_aload_n rfl rfl ?_
  refine Y_iload_n rfl rfl ?_
  refine Y_iload rfl rfl ?_
  refine Y_look (lr_zeros hG hπ (nI t) (nI o)) rfl rfl rfl rfl rfl ?_
  refine Y_ist_16_14 rfl rfl ?_
  exact kk
theorem wd_cases (hG : GR (S0 2) T) (hπ : Pot (S0 2) π) (ht : t ≤ T) (hpv : (pv = -1 ∨ pv = nI 12) ∨ ∃ p, p < 12 ∧ pv = nI p) (hk : ∀ S, LK S0 S → P (some (.int 1)) S R) : Y 0 (fun _ => 0) kLaw_would 24 74 [some (.ref 0), some (.int x), some (.int (nI T)), some (.int (nI t)), some (.int (pv)), some (.int v), l6, l7, l8, l9, l10, l11, l12, l13, l14, none] [] S0 R P := by
  have h8 := hG.1.2.1
  have off : ∀ c6, Y 0 (fun _ => 0) kLaw_would 24 121 [some (.ref 0), some (.int x), some (.int (nI T)), some (.int (nI t)), some (.int (pv)), some (.int v), some (.int c6), some (.int (b2i (!isNb v))), l8, l9, l10, l11, l12, l13, l14, none] [] S0 R P → Y 0 (fun _ => 0) kLaw_would 24 98 [some (.ref 0), some (.int x), some (.int (nI T)), some (.int (nI t)), some (.int (pv)), some (.int v), some (.int c6), l7, l8, l9, l10, l11, l12, l13, l14, none] [] S0 R P := fun c6 kk => by
    by_cases h1 : v < -999
    · rw [show isNb v = false from by unfold isNb; rw [decide_eq_false (fun q => q h1), Bool.false_and]] at kk
      refine Y_iload rfl rfl ?_
      refine Y_sipush rfl ?_
      refine Y_icmp_lt_t rfl (h1) ?_
      refine Y_iconst rfl ?_
      refine Y_goto rfl ?_
      refine Y_ist_16_7 rfl rfl ?_
      exact kk
    · refine Y_iload rfl rfl ?_
      refine Y_sipush rfl ?_
      refine Y_icmp_lt_f rfl (h1) ?_
      by_cases h2 : 999 < v
      · rw [show isNb v = false from by unfold isNb; rw [decide_eq_false (p := ¬ 999 < v) (fun q => q h2), Bool.and_false]] at kk
        refine Y_iload rfl rfl ?_
        refine Y_sipush rfl ?_
        refine Y_icmp_le_f rfl ((Int32.not_le.mpr h2)) ?_
        refine Y_iconst rfl ?_
        refine Y_goto rfl ?_
        refine Y_ist_16_7 rfl rfl ?_
        exact kk
      · rw [show isNb v = true from by unfold isNb; rw [decide_eq_true h1, decide_eq_true h2]; rfl] at kk
        refine Y_iload rfl rfl ?_
        refine Y_sipush rfl ?_
        refine Y_icmp_le_t rfl ((Int32.not_lt.mp h2)) ?_
        refine Y_iconst rfl ?_
        refine Y_ist_16_7 rfl rfl ?_
        exact kk
  have ho : lw (x >>> (5 &&& 31)) (T + 1) ≤ T := by have := lw_lt (v := x >>> (5 &&& 31)) (n := T + 1) (by omega); omega
  have bad : (tIs (S0 2) (nI t) && isPt pv) = false → Y 0 (fun _ => 0) kLaw_would 24 91 [some (.ref 0), some (.int x), some (.int (nI T)), some (.int (nI t)), some (.int (pv)), some (.int v), l6, l7, l8, l9, l10, l11, l12, l13, l14, none] [] S0 R P := fun hb => by
    refine Y_iconst rfl ?_
    refine Y_goto rfl ?_
    refine Y_ist_16_6 rfl rfl ?_
    refine off 1 (wd_mid hG hπ _ rfl ?_)
    have hb' : (tIs (S0 2) (nI t) && (isPt pv && isNb v)) = false := by
      rw [← Bool.and_assoc, hb, Bool.false_and]
    rw [show a_whyNot (S0 2) π (nI t) pv v = -1 from by rw [a_whyNot, hb']; rfl, show a_ifRead (S0 2) (nI t) pv = -1 from by rw [a_ifRead, hb]; rfl, show a_follows (S0 2) π (nI t) pv = -1 from by rw [a_follows, hb]; rfl, show a_reading (S0 2) (nI t) pv = -1 from by rw [a_reading, hb]; rfl]
    exact wd_no h8 (wd_far hG hπ ht ho hk)
  by_cases h1 : t = T
  · refine Y_iload_n rfl rfl ?_
    refine Y_iload_n rfl rfl ?_
    refine Y_icmp_eq_t rfl (congrArg nI h1) ?_
    exact bad (by rw [h1, tIs_T hG.1]; rfl)
  · have ht : t < T := by omega
    refine Y_iload_n rfl rfl ?_
    refine Y_iload_n rfl rfl ?_
    refine Y_icmp_eq_f rfl ((fun e => h1 ((nI_eq (by omega) (by omega)).mp e))) ?_
    rcases hpv with (e | e) | ⟨p, hp, e⟩
    · refine Y_iload rfl rfl ?_
      refine Y_if_lt_t rfl ((by rw [e]; decide)) ?_
      exact bad (by rw [e, Bool.and_eq_false_iff]; right; decide)
    · refine Y_iload rfl rfl ?_
      refine Y_if_lt_f rfl ((by rw [e]; decide)) ?_
      refine Y_iload rfl rfl ?_
      refine Y_bipush rfl ?_
      refine Y_icmp_le_f rfl ((by rw [e]; decide)) ?_
      exact bad (by rw [e, Bool.and_eq_false_iff]; right; decide)
    · subst e
      refine Y_iload rfl rfl ?_
      refine Y_if_lt_f rfl (nI_pos (by omega)) ?_
      refine Y_iload rfl rfl ?_
      refine Y_bipush rfl ?_
      refine Y_icmp_le_t rfl (nI_le (b := 11) (by omega) (by decide)) ?_
      refine Y_iconst rfl ?_
      refine Y_ist_16_6 rfl rfl ?_
      refine off 0 (wd_mid hG hπ _ rfl ?_)
      rw [show a_ifRead (S0 2) (nI t) (nI p) = nI (nP (S0 2) t p) from by rw [a_ifRead, tIs_nI hG.1.1 h8 ht, isPt_nI hp, nI_clamp (by omega), nI_clamp (by omega)]; rfl, show a_follows (S0 2) π (nI t) (nI p) = fV (S0 2) π (12 + t) p from by rw [a_follows, tIs_nI hG.1.1 h8 ht, isPt_nI hp, nI_clamp (by omega), nI_clamp (by omega)]; rfl, show a_reading (S0 2) (nI t) (nI p) = rv (S0 2) (t * 12 + p) from by rw [a_reading, tIs_nI hG.1.1 h8 ht, isPt_nI hp, tHas_nI (by omega) hp, tAt_nI (by omega) hp]; rfl]
      exact wd_main hG hπ ht hp (fun c8 => wd_far hG hπ (by omega) ho hk)
theorem lk_would (hG : GR (S0 2) T) (hπ : Pot (S0 2) π) (hn : S0 10 1 = nI n) (hm : S0 3 1 = nI m) (x : Int32) : LM S0 R kLaw_would [.ref 0, .int x] (.int 1) := by
  have h8 := hG.1.2.1
  refine LM_mk [some (.ref 0), some (.int x), none, none, none, none, none, none, none, none, none, none, none, none, none, none] rfl rfl rfl rfl rfl (rfl) ?_
  refine Y_aload_n rfl rfl ?_
  refine Y_iconst rfl ?_
  refine Y_look (lk_c0 hG hπ hn hm) rfl rfl rfl rfl rfl ?_
  refine Y_ist_16_2 rfl rfl ?_
  refine Y_iload_n rfl rfl ?_
  refine Y_iload_n rfl rfl ?_
  refine Y_iconst rfl ?_
  refine Y_iadd rfl ?_
  refine Y_v (nI_1 T) ?_
  refine Y_lookS (lk_low (N := T + 1) (by omega) (by omega) _) rfl rfl rfl rfl ?_
  refine Y_ist_16_3 rfl rfl ?_
  refine Y_iload_n rfl rfl ?_
  refine Y_iconst rfl ?_
  refine Y_ishr rfl ?_
  refine Y_bipush rfl ?_
  refine Y_lookS (lk_low (N := 14) (by decide) (by decide) _) rfl rfl rfl rfl ?_
  have ht : lw x (T + 1) ≤ T := by have := lw_lt (v := x) (n := T + 1) (by omega); omega
  have fin : ∀ v, Y 0 (fun _ => 0) kLaw_would 24 72 [some (.ref 0), some (.int x), some (.int (nI T)), some (.int (nI (lw x (T + 1)))), some (.int (nI (lw (x >>> (3 &&& 31)) 14) - 1)), none, none, none, none, none, none, none, none, none, none, none] [.int v] S0 R (fun r S' R' => r = some (.int 1) ∧ LK S0 S' ∧ R' = R) := fun v => by
    refine Y_ist_16_5 rfl rfl ?_
    exact wd_cases hG hπ ht (lw_p (lw_lt (by decide))) (fun S hS => ⟨rfl, hS, rfl⟩)
  refine Y_iconst rfl ?_
  refine Y_isub rfl ?_
  refine Y_ist_16_4 rfl rfl ?_
  refine Y_iload_n rfl rfl ?_
  refine Y_bipush rfl ?_
  refine Y_ishr rfl ?_
  refine Y_iload_n rfl rfl ?_
  refine Y_bipush rfl ?_
  refine Y_ishr rfl ?_
  refine Y_iconst rfl ?_
  refine Y_lookS (lk_low (N := 4) (by decide) (by decide) _) rfl rfl rfl rfl ?_
  by_cases h0 : nI (lw (x >>> (18 &&& 31)) 4) = 0
  · refine Y_if_ne_f rfl (h0) ?_
    refine Y_sipush rfl ?_
    refine Y_goto rfl ?_
    refine Y_lookS (lk_low (N := 2003) (by decide) (by decide) _) rfl rfl rfl rfl ?_
    refine Y_iload_n rfl rfl ?_
    refine Y_bipush rfl ?_
    refine Y_ishr rfl ?_
    refine Y_iconst rfl ?_
    refine Y_lookS (lk_low (N := 4) (by decide) (by decide) _) rfl rfl rfl rfl ?_
    refine Y_if_ne_f rfl (h0) ?_
    refine Y_sipush rfl ?_
    refine Y_goto rfl ?_
    refine Y_isub rfl ?_
    exact fin _
  · refine Y_if_ne_t rfl (h0) ?_
    refine Y_bipush rfl ?_
    refine Y_lookS (lk_low (N := 80) (by decide) (by decide) _) rfl rfl rfl rfl ?_
    refine Y_iload_n rfl rfl ?_
    refine Y_bipush rfl ?_
    refine Y_ishr rfl ?_
    refine Y_iconst rfl ?_
    refine Y_lookS (lk_low (N := 4) (by decide) (by decide) _) rfl rfl rfl rfl ?_
    refine Y_if_ne_t rfl (h0) ?_
    refine Y_bipush rfl ?_
    refine Y_isub rfl ?_
    exact fin _
end WOULD2
