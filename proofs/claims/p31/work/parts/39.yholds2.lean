/-! holds: the loop over the tapes -/
section HOLDS2
variable {S0 : Sf} {R : Rf} {T n m : Nat} {π : Nat → Int32} {t p q : Nat} {P : Po} {c7 : Int32} {l4 l5 l6 l10 l11 l12 l13 l14 l15 l16 : Option Value}
theorem hd_tend2 (hG : GR (S0 2) T) (hπ : Pot (S0 2) π) (ht : t < T) (kk : Y 0 (fun _ => 0) kLaw_holds 24 98 [some (.ref 0), some (.int (nI T)), some (.int (nI (tAll (S0 2) (t + 1)))), some (.int (nI (tBareT (S0 2) (t + 1)))), l4, l5, l6, some (.int c7), some (.int 1), some (.int (nI (t + 1))), some (.int (tBest (S0 2) (nI t) ltI 12)), some (.int (tBest (S0 2) (nI t) gtI 12)), l12, l13, l14, l15, l16] [] S0 R P) : Y 0 (fun _ => 0) kLaw_holds 24 340 [some (.ref 0), some (.int (nI T)), some (.int (nI (tAll (S0 2) (t + 1)))), some (.int (nI (tBareT (S0 2) (t + 1)))), l4, l5, l6, some (.int c7), some (.int 1), some (.int (nI t)), some (.int (tBest (S0 2) (nI t) ltI 12)), some (.int (tBest (S0 2) (nI t) gtI 12)), l12, l13, l14, l15, l16] [] S0 R P := by
  have h8 := hG.1.2.1
  have ht8 : t < 8 := by omega
  have K : Y 0 (fun _ => 0) kLaw_holds 24 455 [some (.ref 0), some (.int (nI T)), some (.int (nI (tAll (S0 2) (t + 1)))), some (.int (nI (tBareT (S0 2) (t + 1)))), l4, l5, l6, some (.int c7), some (.int 1), some (.int (nI t)), some (.int (tBest (S0 2) (nI t) ltI 12)), some (.int (tBest (S0 2) (nI t) gtI 12)), l12, l13, l14, l15, l16] [] S0 R P := by
    have hw := pW_T1 (row := S0 2) ht
    have hw2 : pW (S0 2) (12 + t) 12 T ≤ T := cnt_le _ _
    refine Y_aload_n rfl rfl ?_
    refine Y_iload rfl rfl ?_
    refine Y_iconst rfl ?_
    refine Y_look (lk_t4 hG ht) rfl rfl rfl rfl rfl ?_
    refine Y_iconst rfl ?_
    refine Y_icmp_lt_f rfl (nI_nlt (b := 1) hw (by omega)) ?_
    refine Y_aload_n rfl rfl ?_
    refine Y_iload rfl rfl ?_
    refine Y_iconst rfl ?_
    refine Y_look (lk_t4 hG ht) rfl rfl rfl rfl rfl ?_
    refine Y_iload_n rfl rfl ?_
    refine Y_icmp_gt_f rfl (nI_nlt hw2 (by omega)) ?_
    refine Y_iconst rfl ?_
    refine Y_goto rfl ?_
    refine Y_ist_17_8 rfl rfl ?_
    refine Y_inc_17_9 rfl rfl ?_
    refine Y_goto rfl ?_
    rw [nI_succ] at kk
    exact kk
  refine Y_iload rfl rfl ?_
  refine Y_if_eq_f rfl ((by decide)) ?_
  refine Y_aload_n rfl rfl ?_
  refine Y_iload rfl rfl ?_
  refine Y_iconst rfl ?_
  refine Y_look (lk_t0 hG ht) rfl rfl rfl rfl rfl ?_
  refine Y_aload_n rfl rfl ?_
  refine Y_iload rfl rfl ?_
  refine Y_lookS (lk_many hG ht) rfl rfl rfl rfl ?_
  refine Y_icmp_ne_f rfl (rfl) ?_
  refine Y_aload_n rfl rfl ?_
  refine Y_iload rfl rfl ?_
  refine Y_iconst rfl ?_
  refine Y_look (lk_t1 hG ht) rfl rfl rfl rfl rfl ?_
  refine Y_iload rfl rfl ?_
  refine Y_icmp_ne_f rfl (rfl) ?_
  refine Y_aload_n rfl rfl ?_
  refine Y_iload rfl rfl ?_
  refine Y_iconst rfl ?_
  refine Y_look (lk_t2 hG ht) rfl rfl rfl rfl rfl ?_
  refine Y_iload rfl rfl ?_
  refine Y_icmp_ne_f rfl (rfl) ?_
  refine Y_aload_n rfl rfl ?_
  refine Y_iload rfl rfl ?_
  refine Y_iconst rfl ?_
  refine Y_look (lk_t3 hG ht) rfl rfl rfl rfl rfl ?_
  rcases tBest_ix (row := S0 2) ht8 ltI 12 (by omega) with ⟨e4, hno⟩ | ⟨r, hr, hr2, er⟩
  · have e4h : tBest (S0 2) (nI t) gtI 12 = -4 := by
      rcases tBest_ix (row := S0 2) ht8 gtI 12 (by omega) with ⟨e, -⟩ | ⟨q, hq, hq2, -⟩
      · exact e
      · rw [hno q hq] at hq2; cases hq2
    refine Y_iload rfl rfl ?_
    refine Y_bipush rfl ?_
    refine Y_icmp_ne_f rfl (e4) ?_
    refine Y_iconst rfl ?_
    refine Y_goto rfl ?_
    refine Y_icmp_ne_f rfl ((by rw [e4, e4h, tAt_m4]; decide)) ?_
    refine Y_iload rfl rfl ?_
    refine Y_bipush rfl ?_
    refine Y_icmp_ne_f rfl (e4) ?_
    refine Y_iconst rfl ?_
    refine Y_goto rfl ?_
    refine Y_aload_n rfl rfl ?_
    refine Y_iload rfl rfl ?_
    refine Y_iconst rfl ?_
    refine Y_look ((lk_sign hG ht).v (sg_none hno)) rfl rfl rfl rfl rfl ?_
    refine Y_bipush rfl ?_
    refine Y_icmp_ne_f rfl (rfl) ?_
    refine Y_iconst rfl ?_
    refine Y_goto rfl ?_
    refine Y_icmp_ne_f rfl (rfl) ?_
    exact K
  · obtain ⟨q, hq, hq2, eq⟩ := tB_some (row := S0 2) ht8 gtI hr hr2
    rw [er, eq] at K ⊢
    refine Y_iload rfl rfl ?_
    refine Y_bipush rfl ?_
    refine Y_icmp_ne_t rfl (nI_n4 (by omega)) ?_
    refine Y_aload_n rfl rfl ?_
    refine Y_iload rfl rfl ?_
    refine Y_iload rfl rfl ?_
    refine Y_look (lk_reading hG ht hq) rfl rfl rfl rfl rfl ?_
    refine Y_aload_n rfl rfl ?_
    refine Y_iload rfl rfl ?_
    refine Y_iload rfl rfl ?_
    refine Y_look (lk_reading hG ht hr) rfl rfl rfl rfl rfl ?_
    refine Y_isub rfl ?_
    refine Y_icmp_ne_f rfl ((by rw [tAt_nI ht8 hq, tAt_nI ht8 hr, rv_sub hG.2.1 (by omega) (by omega) hq2 hr2])) ?_
    refine Y_iload rfl rfl ?_
    refine Y_bipush rfl ?_
    refine Y_icmp_ne_t rfl (nI_n4 (by omega)) ?_
    refine Y_iconst rfl ?_
    refine Y_aload_n rfl rfl ?_
    refine Y_iload rfl rfl ?_
    refine Y_iconst rfl ?_
    refine Y_look (lk_sign hG ht) rfl rfl rfl rfl rfl ?_
    refine Y_bipush rfl ?_
    refine Y_icmp_ne_t rfl (sg_some ht8 hr hr2) ?_
    refine Y_iconst rfl ?_
    refine Y_icmp_ne_f rfl (rfl) ?_
    exact K
theorem hd_tend (hG : GR (S0 2) T) (hπ : Pot (S0 2) π) (ht : t < T) (kk : Y 0 (fun _ => 0) kLaw_holds 24 98 [some (.ref 0), some (.int (nI T)), some (.int (nI (tAll (S0 2) (t + 1)))), some (.int (nI (tBareT (S0 2) (t + 1)))), l4, l5, l6, some (.int c7), some (.int 1), some (.int (nI (t + 1))), some (.int (tBest (S0 2) (nI t) ltI 12)), some (.int (tBest (S0 2) (nI t) gtI 12)), l12, l13, l14, l15, l16] [] S0 R P) : Y 0 (fun _ => 0) kLaw_holds 24 314 [some (.ref 0), some (.int (nI T)), some (.int (nI (tAll (S0 2) t))), some (.int (nI (tBareT (S0 2) t))), l4, l5, l6, some (.int c7), some (.int 1), some (.int (nI t)), some (.int (tBest (S0 2) (nI t) ltI 12)), some (.int (tBest (S0 2) (nI t) gtI 12)), l12, l13, l14, l15, l16] [] S0 R P := by
  refine Y_iload_n rfl rfl ?_
  refine Y_aload_n rfl rfl ?_
  refine Y_iload rfl rfl ?_
  refine Y_lookS (lk_many hG ht) rfl rfl rfl rfl ?_
  refine Y_iadd rfl ?_
  refine Y_v (y := nI (tAll (S0 2) (t + 1))) (nI_add _ _) ?_
  refine Y_ist_17_2 rfl rfl ?_
  refine Y_iload_n rfl rfl ?_
  have K := hd_tend2 hG hπ ht kk
  refine Y_aload_n rfl rfl ?_
  refine Y_iload rfl rfl ?_
  refine Y_lookS (lk_many hG ht) rfl rfl rfl rfl ?_
  have hle := tOf_le (row := S0 2) (t := t) 12
  by_cases h0 : tOf (S0 2) (nI t) 12 = 0
  · rw [h0]
    refine Y_if_ne_f rfl (rfl) ?_
    refine Y_iconst rfl ?_
    refine Y_goto rfl ?_
    refine Y_iadd rfl ?_
    refine Y_ist_17_3 rfl rfl ?_
    rw [show tBareT (S0 2) (t + 1) = tBareT (S0 2) t + 1 from cnt_t (decide_eq_true h0), nI_succ (tBareT (S0 2) t)] at K
    exact K
  · refine Y_if_ne_t rfl (nI_ne0 (by omega) (by omega)) ?_
    refine Y_iconst rfl ?_
    refine Y_iadd rfl ?_
    refine Y_ist_17_3 rfl rfl ?_
    rw [show tBareT (S0 2) (t + 1) = tBareT (S0 2) t from cnt_f (decide_eq_false h0)] at K
    rw [Int32.add_zero]
    exact K
theorem hd_tape (hG : GR (S0 2) T) (hπ : Pot (S0 2) π) (ht : t < T) (kk : ∀ l10 l11 l12 l13 l14, Y 0 (fun _ => 0) kLaw_holds 24 98 [some (.ref 0), some (.int (nI T)), some (.int (nI (tAll (S0 2) (t + 1)))), some (.int (nI (tBareT (S0 2) (t + 1)))), l4, l5, l6, some (.int c7), some (.int 1), some (.int (nI (t + 1))), l10, l11, l12, l13, l14, l15, l16] [] S0 R P) : Y 0 (fun _ => 0) kLaw_holds 24 98 [some (.ref 0), some (.int (nI T)), some (.int (nI (tAll (S0 2) t))), some (.int (nI (tBareT (S0 2) t))), l4, l5, l6, some (.int c7), some (.int 1), some (.int (nI t)), l10, l11, l12, l13, l14, l15, l16] [] S0 R P := by
  have h8 := hG.1.2.1
  refine Y_iload rfl rfl ?_
  refine Y_iload_n rfl rfl ?_
  refine Y_icmp_ge_f rfl (nI_ge ht (by omega)) ?_
  refine Y_iload rfl rfl ?_
  refine Y_if_eq_f rfl ((by decide)) ?_
  refine Y_bipush rfl ?_
  refine Y_ist_17_10 rfl rfl ?_
  refine Y_bipush rfl ?_
  refine Y_ist_17_11 rfl rfl ?_
  refine Y_iconst rfl ?_
  refine Y_ist_17_12 rfl rfl ?_
  refine down 12 (fun p => ∀ l13 l14, Y 0 (fun _ => 0) kLaw_holds 24 120 [some (.ref 0), some (.int (nI T)), some (.int (nI (tAll (S0 2) t))), some (.int (nI (tBareT (S0 2) t))), l4, l5, l6, some (.int c7), some (.int 1), some (.int (nI t)), some (.int (tBest (S0 2) (nI t) ltI p)), some (.int (tBest (S0 2) (nI t) gtI p)), some (.int (nI p)), l13, l14, l15, l16] [] S0 R P) (fun l13 l14 => ?_) (fun p hp ih l13 l14 => ?_) l13 l14
  · refine Y_iload rfl rfl ?_
    refine Y_bipush rfl ?_
    refine Y_icmp_ge_t rfl (Int32.le_refl _) ?_
    exact hd_tend hG hπ ht (kk _ _ _ _ _)
  · exact hd_tp hG hπ ht hp ih
end HOLDS2
