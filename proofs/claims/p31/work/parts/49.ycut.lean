/-! the law's deeds: cut -/
section CUT
variable {S0 : Sf} {R : Rf} {T n m : Nat} {π row : Nat → Int32} {t p q : Nat} {y how x I a b v c12 c13 : Int32} {P : Po} {l3 l4 l5 l6 l7 l8 l9 l10 l11 l12 l13 l14 l15 l16 l17 l18 : Option Value}
theorem ct_iff (hG : GR row T) (ht : t < T) (hD : TD row T t I a b) : ctB row t v ↔ (decide (I = 0) || decide (¬ 999 < b - v)) = false := by
  have h8 := hG.1.2.1
  have ht8 : t < 8 := by omega
  rcases hD with ⟨e, -⟩ | ⟨e, e0, rfl, rfl, rfl⟩ | ⟨e, rfl, q1, q2, a1, a2, a3, a4, a5, a6, rfl, rfl⟩
  · omega
  · rw [tOf_hsn ht8 12 (Nat.le_refl 12)] at e0
    have e4 : tBest row (nI t) gtI 12 = -4 := by
      rcases tBest_ix ht8 gtI 12 (Nat.le_refl 12) with ⟨e4, -⟩ | ⟨r, hr, hr2, -⟩
      · exact e4
      · rw [cnt_0.mp e0 r hr] at hr2; cases hr2
    unfold ctB
    rw [e4, decide_eq_true rfl, Bool.true_or]
    exact ⟨fun h => absurd rfl h.1, fun h => by cases h⟩
  · have hI : ¬ nI (tOf row (nI t) 12) = 0 := tOf_n0 ht8 a1 a3
    unfold ctB
    rw [decide_eq_false hI, Bool.false_or, a6, tAt_nI ht8 a2, decide_eq_false_iff_not, Decidable.not_not, Int32.not_le]
    exact ⟨fun h => h.2, fun h => ⟨nI_n4 (by omega), h⟩⟩
theorem mvN_c {k : Nat} (ht : t < T) (h8 : T < 8) : ∀ i, i ≤ 12 → mvN (ctR row T) t T v i = cnt (mvP row t v) i
  | 0, _ => rfl
  | i + 1, hi => by
    have ih := mvN_c (k := k) ht h8 i (by omega)
    have ea : mvR (ctR row T) t T v i (t * 12 + i) = ctR row T (t * 12 + i) := mvR_ge (by omega) i i (Nat.le_refl i) (by omega) (by omega)
    have ep : mvP (mvR (ctR row T) t T v i) t v i = mvP row t v i := by
      have e1 : mvP (mvR (ctR row T) t T v i) t v i = mvP (ctR row T) t v i := by unfold mvP; rw [ea, hs_cg ea]
      exact e1.trans (ct_mvP (by omega) (by omega))
    rw [mvN, ep, ih, cnt]
theorem mv_cnt {a b : Nat} {x : Int32} (hab : a ≠ b) (ha : a < 8) (hb : b < 8) (h0 : ∀ i, i < 12 → hs row (b * 12 + i) = false) (hv : ∀ i, i < 12 → mvP row a x i = true → row (a * 12 + i) - x ≠ NONE) : ∀ i, i ≤ 12 → cnt (hs (mvR row a b x i)) 96 = cnt (hs row) 96
  | 0, _ => rfl
  | i + 1, hi => by
    have ih := mv_cnt hab ha hb h0 hv i (by omega)
    have ea : mvR row a b x i (a * 12 + i) = row (a * 12 + i) := mvR_ge hab i i (Nat.le_refl i) (by omega) (by omega)
    have eb : mvR row a b x i (b * 12 + i) = row (b * 12 + i) := by rw [mvR_val hab i (by omega), if_neg (by omega), if_neg (by omega)]
    have ep : mvP (mvR row a b x i) a x i = mvP row a x i := by unfold mvP; rw [ea, hs_cg ea]
    rw [mvR, mvS, ep, ea]
    cases hm : mvP row a x i with
    | false => rw [cond_false]; exact ih
    | true =>
      rw [cond_true]
      have hh : hs row (a * 12 + i) = true := by unfold mvP at hm; rw [Bool.and_eq_true] at hm; exact hm.1
      have c1 := cnt_put (row := mvR row a b x i) (j := b * 12 + i) (v := row (a * 12 + i) - x) (by omega) (by rw [hs_cg eb]; exact h0 i (by omega)) (hv i (by omega) hm)
      have c2 := cnt_lose (row := upd (mvR row a b x i) (b * 12 + i) (row (a * 12 + i) - x)) (j := a * 12 + i) (by omega) (by rw [hs_up2, if_neg (by omega), hs_cg ea]; exact hh)
      omega
theorem cut_cnt (hG : GR row T) (ht : t < T) (h8 : T < 8) (hv : isNb v = true) (hb : ¬ ctB row t v) : cnt (hs (mvR (ctR row T) t T v 12)) 96 = cnt (hs row) 96 := by
  rw [mv_cnt (show t ≠ T by omega) (by omega) h8 (fun i hi => ?_) (fun i hi hm => ?_) 12 (Nat.le_refl 12)]
  · exact cnt_congr (fun i hi => ct_hs hi)
  · rw [ct_hs (by omega)]
    unfold hs
    rw [hG.1.2.2 _ (by omega) (by omega)]
    rfl
  · rw [ct_mvP (by omega) hi] at hm
    rw [ctR_at (by omega) (by omega)]
    exact nb_ne (mv_nb hG.2.1 (by omega) hv hb hi hm)
theorem cut_new (hG : GR row T) (ht : t < T) (h8 : T < 8) (hv : isNb v = true) (hb : ¬ ctB row t v) : tOf (mvR (ctR row T) t T v 12) (nI T) 12 = cnt (mvP row t v) 12 := by
  rw [tOf_hsn h8 12 (Nat.le_refl 12)]
  exact cnt_congr (fun i hi => cut_hsb hG.1 hG.2.1 ht h8 hv hb hi)
theorem cut_old (hG : GR row T) (ht : t < T) (h8 : T < 8) : tOf row (nI t) 12 = tOf (mvR (ctR row T) t T v 12) (nI t) 12 + cnt (mvP row t v) 12 := by
  rw [tOf_hsn (by omega) 12 (Nat.le_refl 12), tOf_hsn (by omega) 12 (Nat.le_refl 12), cnt_congr (fun i hi => cut_hsa (x := v) hG.1 ht h8 hi)]
  refine cnt_two 12 (fun i hi => ?_)
  unfold mvP
  cases hs row (t * 12 + i) with
  | false => rfl
  | true => cases decide (¬ row (t * 12 + i) < v) <;> rfl
theorem ct_go (hG : GR (S0 2) T) (ht : t < T) (hv : isNb v = true) {c6 c7 I a b : Int32} (kk : ∀ l14, Y 0 (fun _ => 0) kLaw_deeds 24 481 [some (.ref 0), some (.int how), some (.int y), some (.int (nI T)), some (.int (nI t)), some (.int 0), some (.int c6), some (.int c7), some (.int I), some (.int a), some (.int b), some (.int v), some (.int 0), some (.int (nI (cnt (mvP (S0 2) t v) 12))), l14, l15, l16, l17, l18] [] S0 R P) : Y 0 (fun _ => 0) kLaw_deeds 24 418 [some (.ref 0), some (.int how), some (.int y), some (.int (nI T)), some (.int (nI t)), some (.int 0), some (.int c6), some (.int c7), some (.int I), some (.int a), some (.int b), some (.int v), some (.int 0), l13, l14, l15, l16, l17, l18] [] S0 R P := by
  have h8 := hG.1.2.1
  have vb := isNb_iff.mp hv
  refine Y_iconst rfl ?_
  refine Y_ist_19_13 rfl rfl ?_
  refine Y_iconst rfl ?_
  refine Y_ist_19_14 rfl rfl ?_
  refine down 12 (fun i => Y 0 (fun _ => 0) kLaw_deeds 24 424 [some (.ref 0), some (.int how), some (.int y), some (.int (nI T)), some (.int (nI t)), some (.int 0), some (.int c6), some (.int c7), some (.int I), some (.int a), some (.int b), some (.int v), some (.int 0), some (.int (nI (cnt (mvP (S0 2) t v) i))), some (.int (nI i)), l15, l16, l17, l18] [] S0 R P) ?_ (fun i hi ih => ?_)
  · refine Y_iload rfl rfl ?_
    refine Y_bipush rfl ?_
    refine Y_icmp_ge_t rfl (Int32.le_refl _) ?_
    exact kk _
  · rw [nI_succ i] at ih
    refine Y_iload rfl rfl ?_
    refine Y_bipush rfl ?_
    refine Y_icmp_ge_f rfl (nI_ge hi (by decide)) ?_
    refine Y_iload rfl rfl ?_
    refine Y_if_ne_f rfl (rfl) ?_
    refine Y_iload rfl rfl ?_
    refine Y_aload_n rfl rfl ?_
    refine Y_iload rfl rfl ?_
    refine Y_iload rfl rfl ?_
    refine Y_look (lk_reading hG ht hi) rfl rfl rfl rfl rfl ?_
    cases hh : hs (S0 2) (t * 12 + i) with
    | false =>
      rw [show cnt (mvP (S0 2) t v) (i + 1) = cnt (mvP (S0 2) t v) i from cnt_f (by unfold mvP; rw [hh, Bool.false_and])] at ih
      refine Y_bipush rfl ?_
      refine Y_icmp_eq_t rfl (rv_f hh) ?_
      refine Y_iconst rfl ?_
      refine Y_iadd rfl ?_
      refine Y_v (Int32.add_zero _) ?_
      refine Y_ist_19_13 rfl rfl ?_
      refine Y_inc_19_14 rfl rfl ?_
      refine Y_goto rfl ?_
      exact ih
    | true =>
      have hb := rv_I hG.2.1 (show t * 12 + i < 96 by omega) hh
      have e5 : (100000 + v : Int32).toInt = 100000 + v.toInt := by rw [tI_add (by rw [tI_100k]; omega) (by rw [tI_100k]; omega), tI_100k]
      refine Y_bipush rfl ?_
      refine Y_icmp_eq_f rfl (rv_ne hG.2.1 (by omega) hh) ?_
      refine Y_aload_n rfl rfl ?_
      refine Y_iload rfl rfl ?_
      refine Y_iload rfl rfl ?_
      refine Y_look (lk_reading hG ht hi) rfl rfl rfl rfl rfl ?_
      by_cases hl : S0 2 (t * 12 + i) < v
      · rw [show cnt (mvP (S0 2) t v) (i + 1) = cnt (mvP (S0 2) t v) i from cnt_f (by unfold mvP; rw [decide_eq_false (p := ¬ S0 2 (t * 12 + i) < v) (fun q => q hl), Bool.and_false])] at ih
        refine Y_ldc rfl ?_
        refine Y_iload rfl rfl ?_
        refine Y_iadd rfl ?_
        refine Y_icmp_lt_t rfl ((by rw [Int32.lt_iff_toInt_lt] at hl ⊢; rw [hb.1, e5]; omega)) ?_
        refine Y_iconst rfl ?_
        refine Y_iadd rfl ?_
        refine Y_v (Int32.add_zero _) ?_
        refine Y_ist_19_13 rfl rfl ?_
        refine Y_inc_19_14 rfl rfl ?_
        refine Y_goto rfl ?_
        exact ih
      · rw [show cnt (mvP (S0 2) t v) (i + 1) = cnt (mvP (S0 2) t v) i + 1 from cnt_t (by unfold mvP; rw [hh, decide_eq_true hl]; rfl), nI_succ] at ih
        refine Y_ldc rfl ?_
        refine Y_iload rfl rfl ?_
        refine Y_iadd rfl ?_
        refine Y_icmp_lt_f rfl ((by rw [Int32.lt_iff_toInt_lt] at hl ⊢; rw [hb.1, e5]; omega)) ?_
        refine Y_iconst rfl ?_
        refine Y_goto rfl ?_
        refine Y_iadd rfl ?_
        refine Y_ist_19_13 rfl rfl ?_
        refine Y_inc_19_14 rfl rfl ?_
        refine Y_goto rfl ?_
        exact ih
theorem ct_can {c6 c7 : Int32} (kk : Y 0 (fun _ => 0) kLaw_deeds 24 504 [l3, l4, l5, l6, l7, l8, some (.int c6), some (.int c7), some (.int I), some (.int a), some (.int b), some (.int v), some (.int c12), some (.int c13), some (.int (b2i (decide (I = 0) || decide (¬ 999 < b - v)))), l15, l16, l17, l18] [] S0 R P) : Y 0 (fun _ => 0) kLaw_deeds 24 481 [l3, l4, l5, l6, l7, l8, some (.int c6), some (.int c7), some (.int I), some (.int a), some (.int b), some (.int v), some (.int c12), some (.int c13), l14, l15, l16, l17, l18] [] S0 R P := by
  by_cases h0 : I = 0
  · rw [decide_eq_true h0, Bool.true_or] at kk
    refine Y_iload rfl rfl ?_
    refine Y_if_eq_t rfl (h0) ?_
    refine Y_iconst rfl ?_
    refine Y_goto rfl ?_
    refine Y_ist_19_14 rfl rfl ?_
    exact kk
  · rw [decide_eq_false h0, Bool.false_or] at kk
    refine Y_iload rfl rfl ?_
    refine Y_if_eq_f rfl (h0) ?_
    by_cases h1 : 999 < b - v
    · rw [decide_eq_false (p := ¬ 999 < b - v) (fun q => q h1)] at kk
      refine Y_iload rfl rfl ?_
      refine Y_iload rfl rfl ?_
      refine Y_isub rfl ?_
      refine Y_sipush rfl ?_
      refine Y_icmp_gt_t rfl (h1) ?_
      refine Y_iconst rfl ?_
      refine Y_ist_19_14 rfl rfl ?_
      exact kk
    · rw [decide_eq_true h1] at kk
      refine Y_iload rfl rfl ?_
      refine Y_iload rfl rfl ?_
      refine Y_isub rfl ?_
      refine Y_sipush rfl ?_
      refine Y_icmp_gt_f rfl (h1) ?_
      refine Y_iconst rfl ?_
      refine Y_goto rfl ?_
      refine Y_ist_19_14 rfl rfl ?_
      exact kk
theorem ct_bad (hH : HI S0 R n) (hG : GR (S0 2) T) (hπ : Pot (S0 2) π) (hP : PD S0 m) (hb : (tIs (S0 2) (nI t) && isNb v) = false) : Y 0 (fun _ => 0) kLaw_deeds 24 418 [some (.ref 0), some (.int how), some (.int y), some (.int (nI T)), some (.int (nI t)), some (.int (b2i (decide (t = T)))), some (.int (S0 2 98)), some (.int (nI (tAll (S0 2) T))), some (.int I), some (.int a), some (.int b), some (.int v), some (.int 1), l13, l14, l15, l16, l17, l18] [] S0 R (PA S0 R n) := by
  have hn4 := hH.2.2.1
  refine Y_iconst rfl ?_
  refine Y_ist_19_13 rfl rfl ?_
  refine Y_iconst rfl ?_
  refine Y_ist_19_14 rfl rfl ?_
  refine Y_iload rfl rfl ?_
  refine Y_bipush rfl ?_
  refine Y_icmp_ge_f rfl ((by decide)) ?_
  refine Y_iload rfl rfl ?_
  refine Y_if_ne_t rfl ((by decide)) ?_
  refine ct_can ?_
  refine Y_aload_n rfl rfl ?_
  refine Y_bipush rfl ?_
  refine Y_look (lk_c10 hG hπ hP.1 hH.2.1) rfl rfl rfl rfl rfl ?_
  refine Y_ist_19_15 rfl rfl ?_
  refine Y_aload_n rfl rfl ?_
  refine Y_iload rfl rfl ?_
  refine Y_iload rfl rfl ?_
  refine Y_look (md_cut0 hb) rfl rfl rfl rfl rfl ?_
  refine Y_ist_19_16 rfl rfl ?_
  refine Y_iload rfl rfl ?_
  refine Y_iload rfl rfl ?_
  refine Y_if_eq_f rfl ((by decide)) ?_
  refine Y_iconst rfl ?_
  refine Y_goto rfl ?_
  refine Y_icmp_ne_f rfl (rfl) ?_
  refine Y_aload_n rfl rfl ?_
  refine Y_bipush rfl ?_
  refine Y_look (lk_c9 hG hπ hP.1 hH.2.1) rfl rfl rfl rfl rfl ?_
  refine Y_iload rfl rfl ?_
  refine Y_iload rfl rfl ?_
  refine Y_iconst rfl ?_
  refine Y_icmp_ne_t rfl ((by decide)) ?_
  refine Y_iconst rfl ?_
  refine Y_iadd rfl ?_
  refine Y_v (Int32.add_zero _) ?_
  refine Y_icmp_ne_f rfl (rfl) ?_
  refine Y_aload_n rfl rfl ?_
  refine Y_bipush rfl ?_
  refine Y_look (lk_c10 hG hπ hP.1 hH.2.1) rfl rfl rfl rfl rfl ?_
  refine Y_iload rfl rfl ?_
  refine Y_iload rfl rfl ?_
  refine Y_bipush rfl ?_
  refine Y_icmp_lt_t rfl ((by decide)) ?_
  refine Y_iconst rfl ?_
  refine Y_iadd rfl ?_
  refine Y_v (Int32.add_zero _) ?_
  refine Y_icmp_ne_f rfl (rfl) ?_
  refine Y_aload_n rfl rfl ?_
  refine Y_iconst rfl ?_
  refine Y_look (lk_c1 hG hπ hP.1 hH.2.1) rfl rfl rfl rfl rfl ?_
  refine Y_iload rfl rfl ?_
  refine Y_icmp_ne_f rfl (rfl) ?_
  refine Y_iload rfl rfl ?_
  refine Y_bipush rfl ?_
  refine Y_icmp_lt_t rfl ((by decide)) ?_
  refine Y_iconst rfl ?_
  refine Y_goto rfl ?_
  exact Y_ret rfl rfl (fun S hS => PA_ret (AC_rf hH hG hP) hn4 S hS)
theorem ct_good (hH : HI S0 R n) (hG : GR (S0 2) T) (hπ : Pot (S0 2) π) (hP : PD S0 m) (ht : t < T) (hD : TD (S0 2) T t I a b) (hv : isNb v = true) : Y 0 (fun _ => 0) kLaw_deeds 24 418 [some (.ref 0), some (.int how), some (.int y), some (.int (nI T)), some (.int (nI t)), some (.int 0), some (.int (S0 2 98)), some (.int (nI (tAll (S0 2) T))), some (.int I), some (.int a), some (.int b), some (.int v), some (.int 0), l13, l14, l15, l16, l17, l18] [] S0 R (PA S0 R n) := by
  have hn4 := hH.2.2.1
  have h8 := hG.1.2.1
  have hci := ct_iff (v := v) hG ht hD
  have hgo : cnt (mvP (S0 2) t v) 12 ≤ 12 := cnt_le _ _
  refine ct_go hG ht hv (fun l14 => ct_can ?_)
  refine Y_aload_n rfl rfl ?_
  refine Y_bipush rfl ?_
  refine Y_look (lk_c10 hG hπ hP.1 hH.2.1) rfl rfl rfl rfl rfl ?_
  refine Y_ist_19_15 rfl rfl ?_
  refine Y_aload_n rfl rfl ?_
  refine Y_iload rfl rfl ?_
  refine Y_iload rfl rfl ?_
  by_cases hT : T < 8
  · have t8 : nI T ≠ 8 := fun e => by have := (nI_eq (a := T) (b := 8) (by omega) (by decide)).mp e; omega
    by_cases hb : ctB (S0 2) t v
    · rw [hci.mp hb]
      refine Y_deed (md_cutR hH hG ht hT hv hb) rfl rfl rfl rfl rfl (fun w S1 R1 hQ => ?_)
      obtain ⟨rfl, dx⟩ := hQ
      have hn1 := DX_n dx
      have hg : GR (upd (S0 2) 98 (S0 2 98 + 1)) T := GR_u hG (by decide)
      have ac := DX_AC hH hG hP dx hg
      have e2 := dx.2.1
      have hG1 : GR (S1 2) T := by rw [e2]; exact hg
      obtain ⟨π1, hπ1⟩ := hG1.2.2.1
      obtain ⟨m1, hm1, -⟩ := ac.2.2.2.1
      refine Y_ist_19_16 rfl rfl ?_
      refine Y_iload rfl rfl ?_
      refine Y_iload rfl rfl ?_
      refine Y_if_eq_t rfl (rfl) ?_
      refine Y_iload_n rfl rfl ?_
      refine Y_bipush rfl ?_
      refine Y_icmp_ne_t rfl (t8) ?_
      refine Y_iload rfl rfl ?_
      refine Y_if_eq_t rfl (rfl) ?_
      refine Y_iconst rfl ?_
      refine Y_icmp_ne_f rfl (rfl) ?_
      refine Y_aload_n rfl rfl ?_
      refine Y_bipush rfl ?_
      refine Y_look (lk_c9 hG1 hπ1 hm1 hn1) rfl rfl rfl rfl rfl ?_
      refine Y_iload rfl rfl ?_
      refine Y_iload rfl rfl ?_
      refine Y_iconst rfl ?_
      refine Y_icmp_ne_f rfl (rfl) ?_
      refine Y_iconst rfl ?_
      refine Y_goto rfl ?_
      refine Y_iadd rfl ?_
      refine Y_icmp_ne_f rfl ((by rw [e2, upd_same])) ?_
      refine Y_aload_n rfl rfl ?_
      refine Y_bipush rfl ?_
      refine Y_look (lk_c10 hG1 hπ1 hm1 hn1) rfl rfl rfl rfl rfl ?_
      refine Y_iload rfl rfl ?_
      refine Y_iload rfl rfl ?_
      refine Y_bipush rfl ?_
      refine Y_icmp_lt_t rfl ((by decide)) ?_
      refine Y_iconst rfl ?_
      refine Y_iadd rfl ?_
      refine Y_v (Int32.add_zero _) ?_
      refine Y_icmp_ne_f rfl ((by rw [e2, upd_ne (by decide)])) ?_
      refine Y_aload_n rfl rfl ?_
      refine Y_iconst rfl ?_
      refine Y_look (lk_c1 hG1 hπ1 hm1 hn1) rfl rfl rfl rfl rfl ?_
      refine Y_iload rfl rfl ?_
      refine Y_icmp_ne_f rfl ((by rw [e2, tAll_cnt hg.1, tAll_cnt hG.1, cnt_hi (by decide)])) ?_
      refine Y_iload rfl rfl ?_
      refine Y_bipush rfl ?_
      refine Y_icmp_lt_t rfl ((by decide)) ?_
      refine Y_iconst rfl ?_
      refine Y_goto rfl ?_
      exact Y_ret rfl rfl (fun S hS => PA_ret ac hn4 S hS)
    · have ec : (decide (I = 0) || decide (¬ 999 < b - v)) = true := by
        cases hc : (decide (I = 0) || decide (¬ 999 < b - v)) with
        | true => rfl
        | false => exact absurd (hci.mpr hc) hb
      rw [ec]
      have eN := mvN_c (row := S0 2) (v := v) (k := 0) ht hT 12 (Nat.le_refl 12)
      have hcn := cut_cnt hG ht hT hv hb
      have hnw := cut_new hG ht hT hv hb
      have hod := cut_old (v := v) hG ht hT
      have hhi := fun j (hj : 96 ≤ j) => cut_hi (row := S0 2) (x := v) ht hT hj
      have eI : I = nI (tOf (S0 2) (nI t) 12) := by
        rcases hD with ⟨e, -⟩ | ⟨-, e0, e, -⟩ | ⟨-, e, -⟩
        · omega
        · rw [e, e0]; rfl
        · exact e
      have e10 : (10 : Int32) + nI (cnt (mvP (S0 2) t v) 12) = nI (10 + cnt (mvP (S0 2) t v) 12) := nI_add 10 _
      refine Y_deed (md_cut hH hG ht hT hv hb) rfl rfl rfl rfl rfl (fun w S1 R1 hQ => ?_)
      obtain ⟨rfl, dx⟩ := hQ
      have hn1 := DX_n dx
      have hg := GR_cut hG ht hT hv hb
      have ac := DX_AC hH hG hP dx hg
      have e2 := dx.2.1
      have hG1 : GR (S1 2) (T + 1) := by rw [e2]; exact hg
      obtain ⟨π1, hπ1⟩ := hG1.2.2.1
      obtain ⟨m1, hm1, -⟩ := ac.2.2.2.1
      rw [eN]
      refine Y_ist_19_16 rfl rfl ?_
      refine Y_iload rfl rfl ?_
      refine Y_iload rfl rfl ?_
      refine Y_if_eq_t rfl (rfl) ?_
      refine Y_iload_n rfl rfl ?_
      refine Y_bipush rfl ?_
      refine Y_icmp_ne_t rfl (t8) ?_
      refine Y_iload rfl rfl ?_
      refine Y_if_eq_f rfl ((by decide)) ?_
      refine Y_bipush rfl ?_
      refine Y_iload rfl rfl ?_
      refine Y_iadd rfl ?_
      refine Y_goto rfl ?_
      refine Y_icmp_ne_f rfl (rfl) ?_
      refine Y_aload_n rfl rfl ?_
      refine Y_bipush rfl ?_
      refine Y_look (lk_c9 hG1 hπ1 hm1 hn1) rfl rfl rfl rfl rfl ?_
      refine Y_iload rfl rfl ?_
      refine Y_iload rfl rfl ?_
      refine Y_iconst rfl ?_
      refine Y_icmp_ne_t rfl ((by rw [e10]; exact fun e => by have := (nI_eq (b := 4) (by omega) (by decide)).mp e; omega)) ?_
      refine Y_iconst rfl ?_
      refine Y_iadd rfl ?_
      refine Y_v (Int32.add_zero _) ?_
      refine Y_icmp_ne_f rfl ((by rw [e2, hhi 98 (by decide)]; unfold ctR; rw [upd_ne (by decide), upd_ne (by decide)])) ?_
      refine Y_aload_n rfl rfl ?_
      refine Y_bipush rfl ?_
      refine Y_look (lk_c10 hG1 hπ1 hm1 hn1) rfl rfl rfl rfl rfl ?_
      refine Y_iload rfl rfl ?_
      refine Y_iload rfl rfl ?_
      refine Y_bipush rfl ?_
      refine Y_icmp_lt_f rfl ((by rw [e10]; exact nI_nlt (b := 10) (by omega) (by omega))) ?_
      refine Y_iconst rfl ?_
      refine Y_goto rfl ?_
      refine Y_iadd rfl ?_
      refine Y_icmp_ne_f rfl ((by rw [e2, hhi 99 (by decide)]; unfold ctR; rw [upd_ne (by decide), upd_same])) ?_
      refine Y_aload_n rfl rfl ?_
      refine Y_iconst rfl ?_
      refine Y_look (lk_c1 hG1 hπ1 hm1 hn1) rfl rfl rfl rfl rfl ?_
      refine Y_iload rfl rfl ?_
      refine Y_icmp_ne_f rfl ((by rw [e2, tAll_cnt hg.1, tAll_cnt hG.1, hcn])) ?_
      refine Y_iload rfl rfl ?_
      refine Y_bipush rfl ?_
      refine Y_icmp_lt_f rfl ((by rw [e10]; exact nI_nlt (b := 10) (by omega) (by omega))) ?_
      refine Y_aload_n rfl rfl ?_
      refine Y_iconst rfl ?_
      refine Y_look (lk_c0 hG1 hπ1 hm1 hn1) rfl rfl rfl rfl rfl ?_
      refine Y_iload_n rfl rfl ?_
      refine Y_iconst rfl ?_
      refine Y_iadd rfl ?_
      refine Y_icmp_ne_f rfl ((nI_succ T)) ?_
      refine Y_aload_n rfl rfl ?_
      refine Y_iload_n rfl rfl ?_
      refine Y_iconst rfl ?_
      refine Y_look (lk_t0 hG1 (t := T) (by omega)) rfl rfl rfl rfl rfl ?_
      refine Y_iload rfl rfl ?_
      refine Y_icmp_ne_f rfl ((by rw [e2, hnw])) ?_
      refine Y_aload_n rfl rfl ?_
      refine Y_iload rfl rfl ?_
      refine Y_iconst rfl ?_
      refine Y_look (lk_t0 hG1 (t := t) (by omega)) rfl rfl rfl rfl rfl ?_
      refine Y_iload rfl rfl ?_
      refine Y_iload rfl rfl ?_
      refine Y_isub rfl ?_
      refine Y_icmp_ne_f rfl ((by rw [e2, eI, hod, nI_subI (by omega), Nat.add_sub_cancel])) ?_
      refine Y_iconst rfl ?_
      refine Y_goto rfl ?_
      exact Y_ret rfl rfl (fun S hS => PA_ret ac hn4 S hS)
  · have eT : T = 8 := by omega
    refine Y_look (md_cut8 hG ht hT hv) rfl rfl rfl rfl rfl ?_
    refine Y_ist_19_16 rfl rfl ?_
    refine Y_iload rfl rfl ?_
    refine Y_iload rfl rfl ?_
    refine Y_if_eq_t rfl (rfl) ?_
    refine Y_iload_n rfl rfl ?_
    refine Y_bipush rfl ?_
    refine Y_icmp_ne_f rfl ((by rw [eT]; rfl)) ?_
    refine Y_bipush rfl ?_
    refine Y_goto rfl ?_
    refine Y_icmp_ne_f rfl (rfl) ?_
    refine Y_aload_n rfl rfl ?_
    refine Y_bipush rfl ?_
    refine Y_look (lk_c9 hG hπ hP.1 hH.2.1) rfl rfl rfl rfl rfl ?_
    refine Y_iload rfl rfl ?_
    refine Y_iload rfl rfl ?_
    refine Y_iconst rfl ?_
    refine Y_icmp_ne_t rfl ((by decide)) ?_
    refine Y_iconst rfl ?_
    refine Y_iadd rfl ?_
    refine Y_v (Int32.add_zero _) ?_
    refine Y_icmp_ne_f rfl (rfl) ?_
    refine Y_aload_n rfl rfl ?_
    refine Y_bipush rfl ?_
    refine Y_look (lk_c10 hG hπ hP.1 hH.2.1) rfl rfl rfl rfl rfl ?_
    refine Y_iload rfl rfl ?_
    refine Y_iload rfl rfl ?_
    refine Y_bipush rfl ?_
    refine Y_icmp_lt_t rfl ((by decide)) ?_
    refine Y_iconst rfl ?_
    refine Y_iadd rfl ?_
    refine Y_v (Int32.add_zero _) ?_
    refine Y_icmp_ne_f rfl (rfl) ?_
    refine Y_aload_n rfl rfl ?_
    refine Y_iconst rfl ?_
    refine Y_look (lk_c1 hG hπ hP.1 hH.2.1) rfl rfl rfl rfl rfl ?_
    refine Y_iload rfl rfl ?_
    refine Y_icmp_ne_f rfl (rfl) ?_
    refine Y_iload rfl rfl ?_
    refine Y_bipush rfl ?_
    refine Y_icmp_lt_t rfl ((by decide)) ?_
    refine Y_iconst rfl ?_
    refine Y_goto rfl ?_
    exact Y_ret rfl rfl (fun S hS => PA_ret (AC_rf hH hG hP) hn4 S hS)
theorem ct_all (hH : HI S0 R n) (hG : GR (S0 2) T) (hπ : Pot (S0 2) π) (hP : PD S0 m) (ht : t ≤ T) (hD : TD (S0 2) T t I a b) (v : Int32) : Y 0 (fun _ => 0) kLaw_deeds 24 388 [some (.ref 0), some (.int how), some (.int y), some (.int (nI T)), some (.int (nI t)), some (.int (b2i (decide (t = T)))), some (.int (S0 2 98)), some (.int (nI (tAll (S0 2) T))), some (.int I), some (.int a), some (.int b), l11, l12, l13, l14, l15, l16, l17, l18] [.int v] S0 R (PA S0 R n) := by
  have h8 := hG.1.2.1
  by_cases e : t = T
  · have B := ct_bad (t := t) (n := n) (m := m) (y := y) (how := how) (I := I) (a := a) (b := b) (v := v) (l13 := l13) (l14 := l14) (l15 := l15) (l16 := l16) (l17 := l17) (l18 := l18) hH hG hπ hP (by rw [e, tIs_T hG.1, Bool.false_and])
    rw [decide_eq_true e] at B ⊢
    refine Y_ist_19_11 rfl rfl ?_
    refine Y_iload rfl rfl ?_
    refine Y_if_ne_t rfl ((by decide)) ?_
    refine Y_iconst rfl ?_
    refine Y_goto rfl ?_
    refine Y_ist_19_12 rfl rfl ?_
    exact B
  · have ht : t < T := by omega
    have B : isNb v = false → Y 0 (fun _ => 0) kLaw_deeds 24 418 [some (.ref 0), some (.int how), some (.int y), some (.int (nI T)), some (.int (nI t)), some (.int (b2i (decide (t = T)))), some (.int (S0 2 98)), some (.int (nI (tAll (S0 2) T))), some (.int I), some (.int a), some (.int b), some (.int v), some (.int 1), l13, l14, l15, l16, l17, l18] [] S0 R (PA S0 R n) := fun hb => ct_bad hH hG hπ hP (by rw [hb, Bool.and_false])
    rw [decide_eq_false e] at B ⊢
    refine Y_ist_19_11 rfl rfl ?_
    refine Y_iload rfl rfl ?_
    refine Y_if_ne_f rfl (rfl) ?_
    by_cases h1 : v < -999
    · refine Y_iload rfl rfl ?_
      refine Y_sipush rfl ?_
      refine Y_icmp_lt_t rfl (h1) ?_
      refine Y_iconst rfl ?_
      refine Y_goto rfl ?_
      refine Y_ist_19_12 rfl rfl ?_
      exact B (by unfold isNb; rw [decide_eq_false (fun q => q h1), Bool.false_and])
    · refine Y_iload rfl rfl ?_
      refine Y_sipush rfl ?_
      refine Y_icmp_lt_f rfl (h1) ?_
      by_cases h2 : 999 < v
      · refine Y_iload rfl rfl ?_
        refine Y_sipush rfl ?_
        refine Y_icmp_le_f rfl ((Int32.not_le.mpr h2)) ?_
        refine Y_iconst rfl ?_
        refine Y_goto rfl ?_
        refine Y_ist_19_12 rfl rfl ?_
        exact B (by unfold isNb; rw [decide_eq_false (p := ¬ 999 < v) (fun q => q h2), Bool.and_false])
      · refine Y_iload rfl rfl ?_
        refine Y_sipush rfl ?_
        refine Y_icmp_le_t rfl ((Int32.not_lt.mp h2)) ?_
        refine Y_iconst rfl ?_
        refine Y_ist_19_12 rfl rfl ?_
        exact ct_good hH hG hπ hP ht hD (by unfold isNb; rw [decide_eq_true h1, decide_eq_true h2]; rfl)
end CUT
