/-! the law's holds: it answers 1 of every good row -/
section HOLDS
variable {S0 : Sf} {R : Rf} {T n m : Nat} {π : Nat → Int32} {t p q : Nat} {P : Po} {c7 : Int32} {l2 l3 l4 l5 l6 l10 l11 l12 l13 l14 l15 l16 : Option Value}
theorem hd_hi (hG : GR (S0 2) T) (ht : t < T) (hp : p < 12) {lo : Int32} (kk : Y 0 (fun _ => 0) kLaw_holds 24 308 [some (.ref 0), some (.int (nI T)), l2, l3, l4, l5, l6, some (.int c7), some (.int 1), some (.int (nI t)), some (.int (lo)), some (.int (tBest (S0 2) (nI t) gtI (p + 1))), some (.int (nI p)), some (.int (rv (S0 2) (t * 12 + p))), l14, l15, l16] [] S0 R P) : Y 0 (fun _ => 0) kLaw_holds 24 272 [some (.ref 0), some (.int (nI T)), l2, l3, l4, l5, l6, some (.int c7), some (.int 1), some (.int (nI t)), some (.int (lo)), some (.int (tBest (S0 2) (nI t) gtI p)), some (.int (nI p)), some (.int (rv (S0 2) (t * 12 + p))), l14, l15, l16] [] S0 R P := by
  have h8 := hG.1.2.1
  have keep : tBest (S0 2) (nI t) gtI (p + 1) = tBest (S0 2) (nI t) gtI p → Y 0 (fun _ => 0) kLaw_holds 24 304 [some (.ref 0), some (.int (nI T)), l2, l3, l4, l5, l6, some (.int c7), some (.int 1), some (.int (nI t)), some (.int (lo)), some (.int (tBest (S0 2) (nI t) gtI p)), some (.int (nI p)), some (.int (rv (S0 2) (t * 12 + p))), l14, l15, l16] [] S0 R P := fun e => by
    refine Y_iload rfl rfl ?_
    refine Y_ist_17_11 rfl rfl ?_
    rw [e] at kk
    exact kk
  have take : tBest (S0 2) (nI t) gtI (p + 1) = nI p → Y 0 (fun _ => 0) kLaw_holds 24 299 [some (.ref 0), some (.int (nI T)), l2, l3, l4, l5, l6, some (.int c7), some (.int 1), some (.int (nI t)), some (.int (lo)), some (.int (tBest (S0 2) (nI t) gtI p)), some (.int (nI p)), some (.int (rv (S0 2) (t * 12 + p))), l14, l15, l16] [] S0 R P := fun e => by
    refine Y_iload rfl rfl ?_
    refine Y_goto rfl ?_
    refine Y_ist_17_11 rfl rfl ?_
    rw [e] at kk
    exact kk
  cases hh : hs (S0 2) (t * 12 + p) with
  | false =>
    refine Y_iload rfl rfl ?_
    refine Y_bipush rfl ?_
    refine Y_icmp_eq_t rfl (rv_f hh) ?_
    exact keep (tB_keep (by omega) hp hh)
  | true =>
    refine Y_iload rfl rfl ?_
    refine Y_bipush rfl ?_
    refine Y_icmp_eq_f rfl (rv_ne hG.2.1 (by omega) hh) ?_
    rcases tBest_ix (row := S0 2) (show t < 8 by omega) gtI p (by omega) with ⟨e4, -⟩ | ⟨r, hr, hr2, er⟩
    · refine Y_iload rfl rfl ?_
      refine Y_bipush rfl ?_
      refine Y_icmp_eq_t rfl (e4) ?_
      exact take (tB_first (by omega) hp hh e4)
    · refine Y_iload rfl rfl ?_
      refine Y_bipush rfl ?_
      refine Y_icmp_eq_f rfl ((by rw [er]; exact nI_n4 (by omega))) ?_
      rw [er]
      rw [er] at keep take
      refine Y_iload rfl rfl ?_
      refine Y_aload_n rfl rfl ?_
      refine Y_iload rfl rfl ?_
      refine Y_iload rfl rfl ?_
      refine Y_look (lk_reading hG ht (show r < 12 by omega)) rfl rfl rfl rfl rfl ?_
      have hle := rv_leI hG.2.1 (show t * 12 + p < 96 by omega) (show t * 12 + r < 96 by omega) hh hr2
      by_cases hl : S0 2 (t * 12 + p) ≤ S0 2 (t * 12 + r)
      · refine Y_icmp_le_t rfl (hle.mpr hl) ?_
        exact keep (tB_nlt (by omega) hp (by omega) hh er (by unfold gtI; rw [decide_eq_false_iff_not]; exact fun q => q hl))
      · refine Y_icmp_le_f rfl ((fun q => hl (hle.mp q))) ?_
        exact take (tB_lt (by omega) hp (by omega) hh er (by unfold gtI; exact decide_eq_true hl))
theorem hd_lo (hG : GR (S0 2) T) (ht : t < T) (hp : p < 12) {hi : Int32} (kk : Y 0 (fun _ => 0) kLaw_holds 24 272 [some (.ref 0), some (.int (nI T)), l2, l3, l4, l5, l6, some (.int c7), some (.int 1), some (.int (nI t)), some (.int (tBest (S0 2) (nI t) ltI (p + 1))), some (.int (hi)), some (.int (nI p)), some (.int (rv (S0 2) (t * 12 + p))), l14, l15, l16] [] S0 R P) : Y 0 (fun _ => 0) kLaw_holds 24 236 [some (.ref 0), some (.int (nI T)), l2, l3, l4, l5, l6, some (.int c7), some (.int 1), some (.int (nI t)), some (.int (tBest (S0 2) (nI t) ltI p)), some (.int (hi)), some (.int (nI p)), some (.int (rv (S0 2) (t * 12 + p))), l14, l15, l16] [] S0 R P := by
  have h8 := hG.1.2.1
  have keep : tBest (S0 2) (nI t) ltI (p + 1) = tBest (S0 2) (nI t) ltI p → Y 0 (fun _ => 0) kLaw_holds 24 268 [some (.ref 0), some (.int (nI T)), l2, l3, l4, l5, l6, some (.int c7), some (.int 1), some (.int (nI t)), some (.int (tBest (S0 2) (nI t) ltI p)), some (.int (hi)), some (.int (nI p)), some (.int (rv (S0 2) (t * 12 + p))), l14, l15, l16] [] S0 R P := fun e => by
    refine Y_iload rfl rfl ?_
    refine Y_ist_17_10 rfl rfl ?_
    rw [e] at kk
    exact kk
  have take : tBest (S0 2) (nI t) ltI (p + 1) = nI p → Y 0 (fun _ => 0) kLaw_holds 24 263 [some (.ref 0), some (.int (nI T)), l2, l3, l4, l5, l6, some (.int c7), some (.int 1), some (.int (nI t)), some (.int (tBest (S0 2) (nI t) ltI p)), some (.int (hi)), some (.int (nI p)), some (.int (rv (S0 2) (t * 12 + p))), l14, l15, l16] [] S0 R P := fun e => by
    refine Y_iload rfl rfl ?_
    refine Y_goto rfl ?_
    refine Y_ist_17_10 rfl rfl ?_
    rw [e] at kk
    exact kk
  cases hh : hs (S0 2) (t * 12 + p) with
  | false =>
    refine Y_iload rfl rfl ?_
    refine Y_bipush rfl ?_
    refine Y_icmp_eq_t rfl (rv_f hh) ?_
    exact keep (tB_keep (by omega) hp hh)
  | true =>
    refine Y_iload rfl rfl ?_
    refine Y_bipush rfl ?_
    refine Y_icmp_eq_f rfl (rv_ne hG.2.1 (by omega) hh) ?_
    rcases tBest_ix (row := S0 2) (show t < 8 by omega) ltI p (by omega) with ⟨e4, -⟩ | ⟨r, hr, hr2, er⟩
    · refine Y_iload rfl rfl ?_
      refine Y_bipush rfl ?_
      refine Y_icmp_eq_t rfl (e4) ?_
      exact take (tB_first (by omega) hp hh e4)
    · refine Y_iload rfl rfl ?_
      refine Y_bipush rfl ?_
      refine Y_icmp_eq_f rfl ((by rw [er]; exact nI_n4 (by omega))) ?_
      rw [er]
      rw [er] at keep take
      refine Y_iload rfl rfl ?_
      refine Y_aload_n rfl rfl ?_
      refine Y_iload rfl rfl ?_
      refine Y_iload rfl rfl ?_
      refine Y_look (lk_reading hG ht (show r < 12 by omega)) rfl rfl rfl rfl rfl ?_
      have hle := rv_leI hG.2.1 (show t * 12 + r < 96 by omega) (show t * 12 + p < 96 by omega) hr2 hh
      by_cases hl : S0 2 (t * 12 + r) ≤ S0 2 (t * 12 + p)
      · refine Y_icmp_ge_t rfl (hle.mpr hl) ?_
        exact keep (tB_nlt (by omega) hp (by omega) hh er (by unfold ltI; rw [decide_eq_false_iff_not]; exact fun q => q hl))
      · refine Y_icmp_ge_f rfl ((fun q => hl (hle.mp q))) ?_
        exact take (tB_lt (by omega) hp (by omega) hh er (by unfold ltI; exact decide_eq_true hl))
theorem hd_is (hG : GR (S0 2) T) (hπ : Pot (S0 2) π) (ht : t < T) (hp : p < 12) {lo hi : Int32} (kk : Y 0 (fun _ => 0) kLaw_holds 24 236 [some (.ref 0), some (.int (nI T)), l2, l3, l4, l5, l6, some (.int c7), some (.int 1), some (.int (nI t)), some (.int (lo)), some (.int (hi)), some (.int (nI p)), some (.int (rv (S0 2) (t * 12 + p))), some (.int (fV (S0 2) π (12 + t) p)), l15, l16] [] S0 R P) : Y 0 (fun _ => 0) kLaw_holds 24 127 [some (.ref 0), some (.int (nI T)), l2, l3, l4, l5, l6, some (.int c7), some (.int 1), some (.int (nI t)), some (.int (lo)), some (.int (hi)), some (.int (nI p)), l13, l14, l15, l16] [] S0 R P := by
  have h8 := hG.1.2.1
  refine Y_aload_n rfl rfl ?_
  refine Y_iload rfl rfl ?_
  refine Y_iload rfl rfl ?_
  refine Y_look (lk_reading hG ht hp) rfl rfl rfl rfl rfl ?_
  refine Y_ist_17_13 rfl rfl ?_
  refine Y_aload_n rfl rfl ?_
  refine Y_iload rfl rfl ?_
  refine Y_iload rfl rfl ?_
  refine Y_look (lk_follows hG hπ ht hp) rfl rfl rfl rfl rfl ?_
  refine Y_ist_17_14 rfl rfl ?_
  refine Y_iload rfl rfl ?_
  refine Y_if_eq_f rfl ((by decide)) ?_
  have K : Y 0 (fun _ => 0) kLaw_holds 24 180 [some (.ref 0), some (.int (nI T)), l2, l3, l4, l5, l6, some (.int c7), some (.int 1), some (.int (nI t)), some (.int (lo)), some (.int (hi)), some (.int (nI p)), some (.int (rv (S0 2) (t * 12 + p))), some (.int (fV (S0 2) π (12 + t) p)), l15, l16] [] S0 R P := by
    cases hc : cB (S0 2) (12 + t) p with
    | true =>
      obtain ⟨q, hq, hh⟩ := cB_hsx (show t < 8 by omega) (show p < 20 by omega) (by omega) hc
      obtain ⟨r, hr, hr2, er⟩ := tB_some (show t < 8 by omega) ltI hq hh
      refine Y_iload rfl rfl ?_
      refine Y_bipush rfl ?_
      refine Y_icmp_ne_t rfl (fV_ne hG hπ (by omega) (by omega) hc) ?_
      refine Y_iconst rfl ?_
      refine Y_aload_n rfl rfl ?_
      refine Y_iload rfl rfl ?_
      refine Y_iconst rfl ?_
      refine Y_look (lk_t0 hG ht) rfl rfl rfl rfl rfl ?_
      refine Y_if_eq_f rfl (tOf_n0 (by omega) hq hh) ?_
      refine Y_aload_n rfl rfl ?_
      refine Y_aload_n rfl rfl ?_
      refine Y_iload rfl rfl ?_
      refine Y_iconst rfl ?_
      refine Y_look ((lk_t1 hG ht).v er) rfl rfl rfl rfl rfl ?_
      refine Y_iload rfl rfl ?_
      refine Y_iconst rfl ?_
      refine Y_look (lk_d0 hG hπ hr hp) rfl rfl rfl rfl rfl ?_
      refine Y_bipush rfl ?_
      refine Y_icmp_ne_t rfl (fV_ne hG hπ (by omega) (by omega) (cB_tr (cB_sy ▸ cB_hs (show t < 8 by omega) hr hr2) hc)) ?_
      refine Y_iconst rfl ?_
      refine Y_icmp_ne_f rfl (rfl) ?_
      refine Y_iconst rfl ?_
      refine Y_goto rfl ?_
      refine Y_ist_17_8 rfl rfl ?_
      exact kk
    | false =>
      refine Y_iload rfl rfl ?_
      refine Y_bipush rfl ?_
      refine Y_icmp_ne_f rfl (fV_f hc) ?_
      refine Y_iconst rfl ?_
      refine Y_goto rfl ?_
      by_cases h0 : nI (tOf (S0 2) (nI t) 12) = 0
      · refine Y_aload_n rfl rfl ?_
        refine Y_iload rfl rfl ?_
        refine Y_iconst rfl ?_
        refine Y_look (lk_t0 hG ht) rfl rfl rfl rfl rfl ?_
        refine Y_if_eq_t rfl (h0) ?_
        refine Y_iconst rfl ?_
        refine Y_goto rfl ?_
        refine Y_icmp_ne_f rfl (rfl) ?_
        refine Y_iconst rfl ?_
        refine Y_goto rfl ?_
        refine Y_ist_17_8 rfl rfl ?_
        exact kk
      · refine Y_aload_n rfl rfl ?_
        refine Y_iload rfl rfl ?_
        refine Y_iconst rfl ?_
        refine Y_look (lk_t0 hG ht) rfl rfl rfl rfl rfl ?_
        refine Y_if_eq_f rfl (h0) ?_
        have hx : ∃ q, q < 12 ∧ hs (S0 2) (t * 12 + q) = true := Classical.byContradiction fun hn => by
          apply h0
          rw [tOf_hsn (by omega) 12 (Nat.le_refl 12), cnt_0.mpr (fun i hi => by
            cases hz : hs (S0 2) (t * 12 + i) with
            | false => rfl
            | true => exact absurd ⟨i, hi, hz⟩ hn)]
          rfl
        obtain ⟨q, hq, hh⟩ := hx
        obtain ⟨r, hr, hr2, er⟩ := tB_some (show t < 8 by omega) ltI hq hh
        refine Y_aload_n rfl rfl ?_
        refine Y_aload_n rfl rfl ?_
        refine Y_iload rfl rfl ?_
        refine Y_iconst rfl ?_
        refine Y_look ((lk_t1 hG ht).v er) rfl rfl rfl rfl rfl ?_
        refine Y_iload rfl rfl ?_
        refine Y_iconst rfl ?_
        refine Y_look (lk_d0 hG hπ hr hp) rfl rfl rfl rfl rfl ?_
        have hc2 : cB (S0 2) r p = false := by
          cases hz : cB (S0 2) r p with
          | false => rfl
          | true => rw [cB_tr (cB_hs (show t < 8 by omega) hr hr2) hz] at hc; cases hc
        refine Y_bipush rfl ?_
        refine Y_icmp_ne_f rfl (fV_f hc2) ?_
        refine Y_iconst rfl ?_
        refine Y_goto rfl ?_
        refine Y_icmp_ne_f rfl (rfl) ?_
        refine Y_iconst rfl ?_
        refine Y_goto rfl ?_
        refine Y_ist_17_8 rfl rfl ?_
        exact kk
  cases hh : hs (S0 2) (t * 12 + p) with
  | false =>
    refine Y_iload rfl rfl ?_
    refine Y_bipush rfl ?_
    refine Y_icmp_eq_t rfl (rv_f hh) ?_
    exact K
  | true =>
    have hb := rv_I hG.2.1 (show t * 12 + p < 96 by omega) hh
    refine Y_iload rfl rfl ?_
    refine Y_bipush rfl ?_
    refine Y_icmp_eq_f rfl (rv_ne hG.2.1 (by omega) hh) ?_
    refine Y_iload rfl rfl ?_
    refine Y_ldc rfl ?_
    refine Y_icmp_lt_f rfl ((by rw [Int32.lt_iff_toInt_lt, hb.1, show (99001 : Int32).toInt = 99001 by decide]; omega)) ?_
    refine Y_iload rfl rfl ?_
    refine Y_ldc rfl ?_
    refine Y_icmp_gt_f rfl ((by rw [Int32.lt_iff_toInt_lt, hb.1, show (100999 : Int32).toInt = 100999 by decide]; omega)) ?_
    refine Y_iload rfl rfl ?_
    refine Y_iload rfl rfl ?_
    refine Y_icmp_ne_f rfl ((by rw [rv_t hh, fV_t (cB_hs (by omega) hp hh), Pot_edge (by omega) hp hh hπ])) ?_
    exact K
theorem hd_tp (hG : GR (S0 2) T) (hπ : Pot (S0 2) π) (ht : t < T) (hp : p < 12) (kk : ∀ l13 l14, Y 0 (fun _ => 0) kLaw_holds 24 120 [some (.ref 0), some (.int (nI T)), l2, l3, l4, l5, l6, some (.int c7), some (.int 1), some (.int (nI t)), some (.int (tBest (S0 2) (nI t) ltI (p + 1))), some (.int (tBest (S0 2) (nI t) gtI (p + 1))), some (.int (nI (p + 1))), l13, l14, l15, l16] [] S0 R P) : Y 0 (fun _ => 0) kLaw_holds 24 120 [some (.ref 0), some (.int (nI T)), l2, l3, l4, l5, l6, some (.int c7), some (.int 1), some (.int (nI t)), some (.int (tBest (S0 2) (nI t) ltI p)), some (.int (tBest (S0 2) (nI t) gtI p)), some (.int (nI p)), l13, l14, l15, l16] [] S0 R P := by
  refine Y_iload rfl rfl ?_
  refine Y_bipush rfl ?_
  refine Y_icmp_ge_f rfl (nI_ge hp (by decide)) ?_
  refine hd_is hG hπ ht hp (hd_lo hG ht hp (hd_hi hG ht hp ?_))
  refine Y_inc_17_12 rfl rfl ?_
  refine Y_goto rfl ?_
  have := kk (some (.int (rv (S0 2) (t * 12 + p)))) (some (.int (fV (S0 2) π (12 + t) p)))
  rw [nI_succ] at this
  exact this
end HOLDS
