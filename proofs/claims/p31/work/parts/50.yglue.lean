/-! the law's deeds: glue; all deeds -/
section GLUE
variable {S0 : Sf} {R : Rf} {T n m : Nat} {π row : Nat → Int32} {t o p q : Nat} {y how x I a b v c12 c13 : Int32} {P : Po} {l3 l4 l5 l6 l7 l8 l9 l10 l11 l12 l13 l14 l15 l16 l17 l18 : Option Value}
noncomputable def caB (row π : Nat → Int32) (t o i : Nat) : Bool := cmB row o t i && (cB row (12 + t) (12 + o) && !isNb (row (o * 12 + i) + glB row π t o))
theorem gl_go (hG : GR (S0 2) T) (hπ : Pot (S0 2) π) (ht : t < T) (ho : o < T) (kk : ∀ l16 l17, Y 0 (fun _ => 0) kLaw_deeds 24 849 [some (.ref 0), some (.int how), some (.int y), some (.int (nI T)), some (.int (nI t)), some (.int (b2i (decide (t = T)))), some (.int (S0 2 98)), some (.int (nI (tAll (S0 2) T))), some (.int I), some (.int a), some (.int b), some (.int (nI o)), some (.int 0), some (.int (fV (S0 2) π (12 + t) (12 + o))), some (.int (nI (cnt (cmB (S0 2) o t) 12))), some (.int (b2i (decide (cnt (caB (S0 2) π t o) 12 = 0)))), l16, l17, l18] [] S0 R (PA S0 R n)) : Y 0 (fun _ => 0) kLaw_deeds 24 724 [some (.ref 0), some (.int how), some (.int y), some (.int (nI T)), some (.int (nI t)), some (.int (b2i (decide (t = T)))), some (.int (S0 2 98)), some (.int (nI (tAll (S0 2) T))), some (.int I), some (.int a), some (.int b), some (.int (nI o)), some (.int 0), some (.int (fV (S0 2) π (12 + t) (12 + o))), l14, l15, l16, l17, l18] [] S0 R (PA S0 R n) := by
  have h8 := hG.1.2.1
  refine Y_iconst rfl ?_
  refine Y_ist_19_14 rfl rfl ?_
  refine Y_iconst rfl ?_
  refine Y_ist_19_15 rfl rfl ?_
  refine Y_iconst rfl ?_
  refine Y_ist_19_16 rfl rfl ?_
  refine down 12 (fun i => ∀ l17, Y 0 (fun _ => 0) kLaw_deeds 24 733 [some (.ref 0), some (.int how), some (.int y), some (.int (nI T)), some (.int (nI t)), some (.int (b2i (decide (t = T)))), some (.int (S0 2 98)), some (.int (nI (tAll (S0 2) T))), some (.int I), some (.int a), some (.int b), some (.int (nI o)), some (.int 0), some (.int (fV (S0 2) π (12 + t) (12 + o))), some (.int (nI (cnt (cmB (S0 2) o t) i))), some (.int (b2i (decide (cnt (caB (S0 2) π t o) i = 0)))), some (.int (nI i)), l17, l18] [] S0 R (PA S0 R n)) (fun l17 => ?_) (fun i hi ih l17 => ?_) l17
  · refine Y_iload rfl rfl ?_
    refine Y_bipush rfl ?_
    refine Y_icmp_ge_t rfl (Int32.le_refl _) ?_
    exact kk _ _
  · rw [nI_succ i] at ih
    have F : Y 0 (fun _ => 0) kLaw_deeds 24 843 [some (.ref 0), some (.int how), some (.int y), some (.int (nI T)), some (.int (nI t)), some (.int (b2i (decide (t = T)))), some (.int (S0 2 98)), some (.int (nI (tAll (S0 2) T))), some (.int I), some (.int a), some (.int b), some (.int (nI o)), some (.int 0), some (.int (fV (S0 2) π (12 + t) (12 + o))), some (.int (nI (cnt (cmB (S0 2) o t) (i + 1)))), some (.int (b2i (decide (cnt (caB (S0 2) π t o) (i + 1) = 0)))), some (.int (nI i)), some (.int (b2i (cmB (S0 2) o t i))), l18] [] S0 R (PA S0 R n) := by
      refine Y_inc_19_16 rfl rfl ?_
      refine Y_goto rfl ?_
      exact ih _
    have C : Y 0 (fun _ => 0) kLaw_deeds 24 793 [some (.ref 0), some (.int how), some (.int y), some (.int (nI T)), some (.int (nI t)), some (.int (b2i (decide (t = T)))), some (.int (S0 2 98)), some (.int (nI (tAll (S0 2) T))), some (.int I), some (.int a), some (.int b), some (.int (nI o)), some (.int 0), some (.int (fV (S0 2) π (12 + t) (12 + o))), some (.int (nI (cnt (cmB (S0 2) o t) (i + 1)))), some (.int (b2i (decide (cnt (caB (S0 2) π t o) i = 0)))), some (.int (nI i)), some (.int (b2i (cmB (S0 2) o t i))), l18] [] S0 R (PA S0 R n) := by
      by_cases hc : cnt (caB (S0 2) π t o) i = 0
      · rw [decide_eq_true hc]
        refine Y_iload rfl rfl ?_
        refine Y_if_eq_f rfl ((by decide)) ?_
        cases hm : cmB (S0 2) o t i with
        | false =>
          rw [hm, cnt_f (f := caB (S0 2) π t o) (n := i) (by unfold caB; rw [hm, Bool.false_and]), hc] at F
          refine Y_iload rfl rfl ?_
          refine Y_if_eq_t rfl (rfl) ?_
          refine Y_iconst rfl ?_
          refine Y_goto rfl ?_
          refine Y_ist_19_15 rfl rfl ?_
          exact F
        | true =>
          rw [hm] at F
          refine Y_iload rfl rfl ?_
          refine Y_if_eq_f rfl ((by decide)) ?_
          have hcm := hm
          unfold cmB at hcm
          rw [Bool.and_eq_true] at hcm
          cases hb : cB (S0 2) (12 + t) (12 + o) with
          | false =>
            rw [cnt_f (f := caB (S0 2) π t o) (n := i) (by unfold caB; rw [hb, Bool.false_and, Bool.and_false]), hc] at F
            refine Y_iload rfl rfl ?_
            refine Y_bipush rfl ?_
            refine Y_icmp_eq_t rfl (fV_f hb) ?_
            refine Y_iconst rfl ?_
            refine Y_goto rfl ?_
            refine Y_ist_19_15 rfl rfl ?_
            exact F
          | true =>
            have hop := cB_hs (show o < 8 by omega) hi hcm.1
            have htp := cB_tr hb hop
            have hf := fV_I hG hπ (x := 12 + t) (y := i) (by omega) (by omega) htp
            have eg : S0 2 (o * 12 + i) + glB (S0 2) π t o = π i - π (12 + t) := by
              rw [Pot_edge (by omega) hi hcm.1 hπ]; unfold glB; grind
            refine Y_iload rfl rfl ?_
            refine Y_bipush rfl ?_
            refine Y_icmp_eq_f rfl (fV_ne hG hπ (by omega) (by omega) hb) ?_
            cases hn : isNb (S0 2 (o * 12 + i) + glB (S0 2) π t o) with
            | true =>
              rw [cnt_f (f := caB (S0 2) π t o) (n := i) (by unfold caB; rw [hn, Bool.not_true, Bool.and_false, Bool.and_false]), hc] at F
              rw [eg, isNb_iff] at hn
              refine Y_aload_n rfl rfl ?_
              refine Y_iload rfl rfl ?_
              refine Y_iload rfl rfl ?_
              refine Y_look (lk_follows hG hπ ht hi) rfl rfl rfl rfl rfl ?_
              refine Y_ldc rfl ?_
              refine Y_icmp_lt_f rfl ((by rw [Int32.lt_iff_toInt_lt, hf.1, show (99001 : Int32).toInt = 99001 by decide]; omega)) ?_
              refine Y_aload_n rfl rfl ?_
              refine Y_iload rfl rfl ?_
              refine Y_iload rfl rfl ?_
              refine Y_look (lk_follows hG hπ ht hi) rfl rfl rfl rfl rfl ?_
              refine Y_ldc rfl ?_
              refine Y_icmp_gt_f rfl ((by rw [Int32.lt_iff_toInt_lt, hf.1, show (100999 : Int32).toInt = 100999 by decide]; omega)) ?_
              refine Y_iconst rfl ?_
              refine Y_goto rfl ?_
              refine Y_ist_19_15 rfl rfl ?_
              exact F
            | false =>
              rw [cnt_t (f := caB (S0 2) π t o) (n := i) (by unfold caB; rw [hm, hb, hn]; rfl)] at F
              rw [decide_eq_false (show ¬ cnt (caB (S0 2) π t o) i + 1 = 0 by omega)] at F
              have hn' : ¬ (-999 ≤ (π i - π (12 + t)).toInt ∧ (π i - π (12 + t)).toInt ≤ 999) := fun q => by rw [eg, isNb_iff.mpr q] at hn; cases hn
              refine Y_aload_n rfl rfl ?_
              refine Y_iload rfl rfl ?_
              refine Y_iload rfl rfl ?_
              refine Y_look (lk_follows hG hπ ht hi) rfl rfl rfl rfl rfl ?_
              by_cases h1 : (π i - π (12 + t)).toInt < -999
              · refine Y_ldc rfl ?_
                refine Y_icmp_lt_t rfl ((by rw [Int32.lt_iff_toInt_lt, hf.1, show (99001 : Int32).toInt = 99001 by decide]; omega)) ?_
                refine Y_iconst rfl ?_
                refine Y_ist_19_15 rfl rfl ?_
                exact F
              · refine Y_ldc rfl ?_
                refine Y_icmp_lt_f rfl ((by rw [Int32.lt_iff_toInt_lt, hf.1, show (99001 : Int32).toInt = 99001 by decide]; omega)) ?_
                refine Y_aload_n rfl rfl ?_
                refine Y_iload rfl rfl ?_
                refine Y_iload rfl rfl ?_
                refine Y_look (lk_follows hG hπ ht hi) rfl rfl rfl rfl rfl ?_
                refine Y_ldc rfl ?_
                refine Y_icmp_gt_t rfl ((by rw [Int32.lt_iff_toInt_lt, hf.1, show (100999 : Int32).toInt = 100999 by decide]; omega)) ?_
                refine Y_iconst rfl ?_
                refine Y_ist_19_15 rfl rfl ?_
                exact F
      · rw [decide_eq_false hc]
        have hc2 : ¬ cnt (caB (S0 2) π t o) (i + 1) = 0 := by rw [cnt]; omega
        rw [decide_eq_false hc2] at F
        refine Y_iload rfl rfl ?_
        refine Y_if_eq_t rfl (rfl) ?_
        refine Y_iconst rfl ?_
        refine Y_ist_19_15 rfl rfl ?_
        exact F
    have D : Y 0 (fun _ => 0) kLaw_deeds 24 778 [some (.ref 0), some (.int how), some (.int y), some (.int (nI T)), some (.int (nI t)), some (.int (b2i (decide (t = T)))), some (.int (S0 2 98)), some (.int (nI (tAll (S0 2) T))), some (.int I), some (.int a), some (.int b), some (.int (nI o)), some (.int 0), some (.int (fV (S0 2) π (12 + t) (12 + o))), some (.int (nI (cnt (cmB (S0 2) o t) i))), some (.int (b2i (decide (cnt (caB (S0 2) π t o) i = 0)))), some (.int (nI i)), some (.int (b2i (cmB (S0 2) o t i))), l18] [] S0 R (PA S0 R n) := by
      cases hm : cmB (S0 2) o t i with
      | false =>
        rw [hm, cnt_f hm] at C
        refine Y_iload rfl rfl ?_
        refine Y_iload rfl rfl ?_
        refine Y_if_eq_t rfl (rfl) ?_
        refine Y_iconst rfl ?_
        refine Y_iadd rfl ?_
        refine Y_v (Int32.add_zero _) ?_
        refine Y_ist_19_14 rfl rfl ?_
        exact C
      | true =>
        rw [hm, cnt_t hm, nI_succ] at C
        refine Y_iload rfl rfl ?_
        refine Y_iload rfl rfl ?_
        refine Y_if_eq_f rfl ((by decide)) ?_
        refine Y_iconst rfl ?_
        refine Y_goto rfl ?_
        refine Y_iadd rfl ?_
        refine Y_ist_19_14 rfl rfl ?_
        exact C
    refine Y_iload rfl rfl ?_
    refine Y_bipush rfl ?_
    refine Y_icmp_ge_f rfl (nI_ge hi (by decide)) ?_
    refine Y_iload rfl rfl ?_
    refine Y_if_ne_f rfl (rfl) ?_
    refine Y_aload_n rfl rfl ?_
    refine Y_iload rfl rfl ?_
    refine Y_iload rfl rfl ?_
    refine Y_look (lk_reading hG ho hi) rfl rfl rfl rfl rfl ?_
    cases h1 : hs (S0 2) (o * 12 + i) with
    | false =>
      rw [show cmB (S0 2) o t i = false from by unfold cmB; rw [h1, Bool.false_and]] at D
      refine Y_bipush rfl ?_
      refine Y_icmp_eq_t rfl (rv_f h1) ?_
      refine Y_iconst rfl ?_
      refine Y_ist_19_17 rfl rfl ?_
      exact D
    | true =>
      refine Y_bipush rfl ?_
      refine Y_icmp_eq_f rfl (rv_ne hG.2.1 (by omega) h1) ?_
      refine Y_aload_n rfl rfl ?_
      refine Y_iload rfl rfl ?_
      refine Y_iload rfl rfl ?_
      refine Y_look (lk_reading hG ht hi) rfl rfl rfl rfl rfl ?_
      cases h2 : hs (S0 2) (t * 12 + i) with
      | true =>
        rw [show cmB (S0 2) o t i = false from by unfold cmB; rw [h2, Bool.not_true, Bool.and_false]] at D
        refine Y_bipush rfl ?_
        refine Y_icmp_ne_t rfl (rv_ne hG.2.1 (by omega) h2) ?_
        refine Y_iconst rfl ?_
        refine Y_ist_19_17 rfl rfl ?_
        exact D
      | false =>
        rw [show cmB (S0 2) o t i = true from by unfold cmB; rw [h1, h2]; rfl] at D
        refine Y_bipush rfl ?_
        refine Y_icmp_ne_f rfl (rv_f h2) ?_
        refine Y_iconst rfl ?_
        refine Y_goto rfl ?_
        refine Y_ist_19_17 rfl rfl ?_
        exact D
theorem glX_hi {dx : Int32} (hab : t ≠ o) (ht : t < 8) (hj : 96 < p) (h100 : p ≠ 100) : glX row t o dx p = row p := by
  unfold glX
  rw [upd_ne h100, tRem_at (by omega), if_neg (by omega), cmR_val hab 12 (Nat.le_refl 12), if_neg (by omega)]
theorem glX_100 {dx : Int32} (hab : t ≠ o) (ht : t < 8) : glX row t o dx 100 = row 100 + 1 := by
  unfold glX
  rw [upd_same, tRem_at (by omega), if_neg (by omega), cmR_val hab 12 (Nat.le_refl 12), if_neg (by omega)]
theorem glX_cnt {dx : Int32} (hr : RG row) (hab : t ≠ o) (ht : t < 8) (ho : o < 8) (h0 : cnt (stayB row o dx) 12 = 0) : cnt (hs (glX row t o dx)) 96 + tOf row (nI o) 12 = cnt (hs row) 96 + cnt (cmB row o t) 12 := by
  unfold glX
  have e : cnt (fun i => hs row (o * 12 + i)) 12 = cnt (fun i => hs (cmR row o t dx 12) (o * 12 + i)) 12 := cnt_congr (fun i hi => (hs_cg (cmR_at 12 (o * 12 + i) (Nat.le_refl 12) (by omega))).symm)
  have e1 := n40_tRem (X := cmR row o t dx 12) (b := o) ho
  have e2 := cm_cnt hr hab ht ho h0 12 (Nat.le_refl 12)
  rw [cnt_hi (by decide), tOf_hsn ho 12 (Nat.le_refl 12), e, e1, e2]
theorem gl_good (hH : HI S0 R n) (hG : GR (S0 2) T) (hπ : Pot (S0 2) π) (hP : PD S0 m) (ht : t < T) (ho : o < T) (hab : t ≠ o) : Y 0 (fun _ => 0) kLaw_deeds 24 724 [some (.ref 0), some (.int how), some (.int y), some (.int (nI T)), some (.int (nI t)), some (.int (b2i (decide (t = T)))), some (.int (S0 2 98)), some (.int (nI (tAll (S0 2) T))), some (.int I), some (.int a), some (.int b), some (.int (nI o)), some (.int 0), some (.int (fV (S0 2) π (12 + t) (12 + o))), l14, l15, l16, l17, l18] [] S0 R (PA S0 R n) := by
  have hn4 := hH.2.2.1
  have h8 := hG.1.2.1
  have t8 : t < 8 := by omega
  have o8 : o < 8 := by omega
  have hgo : cnt (cmB (S0 2) o t) 12 ≤ 12 := cnt_le _ _
  have hal := tOf_le (row := S0 2) (t := o) 12
  refine gl_go hG hπ ht ho (fun l16 l17 => ?_)
  refine Y_iload rfl rfl ?_
  refine Y_if_eq_t rfl (rfl) ?_
  refine Y_aload_n rfl rfl ?_
  refine Y_iload rfl rfl ?_
  refine Y_iconst rfl ?_
  refine Y_look (lk_t0 hG ho) rfl rfl rfl rfl rfl ?_
  refine Y_ist_19_16 rfl rfl ?_
  refine Y_aload_n rfl rfl ?_
  refine Y_bipush rfl ?_
  refine Y_look (lk_c11 hG hπ hP.1 hH.2.1) rfl rfl rfl rfl rfl ?_
  refine Y_ist_19_17 rfl rfl ?_
  refine Y_aload_n rfl rfl ?_
  refine Y_iload rfl rfl ?_
  refine Y_iload rfl rfl ?_
  refine Y_deed (md_glue hH hG hπ ht ho hab) rfl rfl rfl rfl rfl (fun w S1 R1 hQ => ?_)
  obtain ⟨rfl, dx⟩ := hQ
  have hn1 := DX_n dx
  cases hb : cB (S0 2) (12 + t) (12 + o) with
  | false =>
    rw [glR, hb, cond_false] at dx
    rw [glA, hb, cond_false]
    have hg : GR (upd (S0 2) 98 (S0 2 98 + 1)) T := GR_u hG (by decide)
    have ac := DX_AC hH hG hP dx hg
    have e2 := dx.2.1
    have hG1 : GR (S1 2) T := by rw [e2]; exact hg
    obtain ⟨π1, hπ1⟩ := hG1.2.2.1
    obtain ⟨m1, hm1, -⟩ := ac.2.2.2.1
    refine Y_ist_19_18 rfl rfl ?_
    refine Y_iload rfl rfl ?_
    refine Y_iload rfl rfl ?_
    refine Y_if_eq_t rfl (rfl) ?_
    refine Y_iload rfl rfl ?_
    refine Y_bipush rfl ?_
    refine Y_icmp_ne_f rfl (fV_f hb) ?_
    refine Y_iconst rfl ?_
    refine Y_goto rfl ?_
    refine Y_icmp_ne_f rfl (rfl) ?_
    refine Y_aload_n rfl rfl ?_
    refine Y_bipush rfl ?_
    refine Y_look (lk_c9 hG1 hπ1 hm1 hn1) rfl rfl rfl rfl rfl ?_
    refine Y_iload rfl rfl ?_
    refine Y_iload rfl rfl ?_
    refine Y_iconst rfl ?_
    refine Y_icmp_eq_t rfl (rfl) ?_
    refine Y_iconst rfl ?_
    refine Y_goto rfl ?_
    refine Y_iadd rfl ?_
    refine Y_icmp_ne_f rfl ((by rw [e2, upd_same])) ?_
    refine Y_aload_n rfl rfl ?_
    refine Y_bipush rfl ?_
    refine Y_look (lk_c11 hG1 hπ1 hm1 hn1) rfl rfl rfl rfl rfl ?_
    refine Y_iload rfl rfl ?_
    refine Y_iload rfl rfl ?_
    refine Y_bipush rfl ?_
    refine Y_icmp_lt_t rfl ((by decide)) ?_
    refine Y_iconst rfl ?_
    refine Y_iadd rfl ?_
    refine Y_v (Int32.add_zero _) ?_
    refine Y_icmp_ne_f rfl ((by rw [e2, upd_ne (by decide)])) ?_
    refine Y_aload_n rfl rfl ?_
    refine Y_iconst rfl ?_
    refine Y_look (lk_c0 hG1 hπ1 hm1 hn1) rfl rfl rfl rfl rfl ?_
    refine Y_iload_n rfl rfl ?_
    refine Y_iload rfl rfl ?_
    refine Y_bipush rfl ?_
    refine Y_icmp_lt_t rfl ((by decide)) ?_
    refine Y_iconst rfl ?_
    refine Y_isub rfl ?_
    refine Y_v (y := nI T) (Int32.sub_zero _) ?_
    refine Y_icmp_ne_f rfl (rfl) ?_
    refine Y_aload_n rfl rfl ?_
    refine Y_iconst rfl ?_
    refine Y_look (lk_c1 hG1 hπ1 hm1 hn1) rfl rfl rfl rfl rfl ?_
    refine Y_iload rfl rfl ?_
    refine Y_iload rfl rfl ?_
    refine Y_bipush rfl ?_
    refine Y_icmp_lt_t rfl ((by decide)) ?_
    refine Y_iconst rfl ?_
    refine Y_isub rfl ?_
    refine Y_v (Int32.sub_zero _) ?_
    refine Y_icmp_ne_f rfl ((by rw [e2, tAll_cnt hg.1, tAll_cnt hG.1, cnt_hi (by decide)])) ?_
    refine Y_iconst rfl ?_
    refine Y_goto rfl ?_
    exact Y_ret rfl rfl (fun S hS => PA_ret ac hn4 S hS)
  | true =>
    have hst := gt_stay (row := S0 2) (π := π) (a := t) (b := o) t8 o8 hG.2.1 hπ
    have ecg : cnt (caB (S0 2) π t o) 12 = cnt (gtB (S0 2) o t (glB (S0 2) π t o)) 12 := cnt_congr (fun i hi => by unfold caB gtB; rw [hb, Bool.true_and])
    by_cases h0 : cnt (stayB (S0 2) o (glB (S0 2) π t o)) 12 = 0
    · rw [glR, hb, cond_true, if_pos h0] at dx
      rw [glA, hb, cond_true, if_pos h0, cmN_c hab 12 (Nat.le_refl 12), ecg, hst.mp h0]
      have hg := GR_glue hG hπ ht ho hab h0
      have ac := DX_AC hH hG hP dx hg
      have e2 := dx.2.1
      have hG1 : GR (S1 2) (T - 1) := by rw [e2]; exact hg
      obtain ⟨π1, hπ1⟩ := hG1.2.2.1
      obtain ⟨m1, hm1, -⟩ := ac.2.2.2.1
      have e10 : (10 : Int32) + nI (cnt (cmB (S0 2) o t) 12) = nI (10 + cnt (cmB (S0 2) o t) 12) := nI_add 10 _
      have hcn := glX_cnt (dx := glB (S0 2) π t o) hG.2.1 hab t8 o8 h0
      rw [← tAll_cnt hg.1, ← tAll_cnt hG.1] at hcn
      have hcI := congrArg nI hcn
      rw [← nI_add, ← nI_add] at hcI
      refine Y_ist_19_18 rfl rfl ?_
      refine Y_iload rfl rfl ?_
      refine Y_iload rfl rfl ?_
      refine Y_if_eq_t rfl (rfl) ?_
      refine Y_iload rfl rfl ?_
      refine Y_bipush rfl ?_
      refine Y_icmp_ne_t rfl (fV_ne hG hπ (by omega) (by omega) hb) ?_
      refine Y_iload rfl rfl ?_
      refine Y_if_eq_f rfl ((by decide)) ?_
      refine Y_bipush rfl ?_
      refine Y_iload rfl rfl ?_
      refine Y_iadd rfl ?_
      refine Y_goto rfl ?_
      refine Y_icmp_ne_f rfl (rfl) ?_
      refine Y_aload_n rfl rfl ?_
      refine Y_bipush rfl ?_
      refine Y_look (lk_c9 hG1 hπ1 hm1 hn1) rfl rfl rfl rfl rfl ?_
      refine Y_iload rfl rfl ?_
      refine Y_iload rfl rfl ?_
      refine Y_iconst rfl ?_
      refine Y_icmp_eq_f rfl ((by rw [e10]; exact fun e => by have := (nI_eq (b := 5) (by omega) (by decide)).mp e; omega)) ?_
      refine Y_iload rfl rfl ?_
      refine Y_iconst rfl ?_
      refine Y_icmp_ne_t rfl ((by rw [e10]; exact fun e => by have := (nI_eq (b := 4) (by omega) (by decide)).mp e; omega)) ?_
      refine Y_iconst rfl ?_
      refine Y_iadd rfl ?_
      refine Y_v (Int32.add_zero _) ?_
      refine Y_icmp_ne_f rfl ((by rw [e2, glX_hi hab t8 (by decide) (by decide)])) ?_
      refine Y_aload_n rfl rfl ?_
      refine Y_bipush rfl ?_
      refine Y_look (lk_c11 hG1 hπ1 hm1 hn1) rfl rfl rfl rfl rfl ?_
      refine Y_iload rfl rfl ?_
      refine Y_iload rfl rfl ?_
      refine Y_bipush rfl ?_
      refine Y_icmp_lt_f rfl ((by rw [e10]; exact nI_nlt (b := 10) (by omega) (by omega))) ?_
      refine Y_iconst rfl ?_
      refine Y_goto rfl ?_
      refine Y_iadd rfl ?_
      refine Y_icmp_ne_f rfl ((by rw [e2, glX_100 hab t8])) ?_
      refine Y_aload_n rfl rfl ?_
      refine Y_iconst rfl ?_
      refine Y_look (lk_c0 hG1 hπ1 hm1 hn1) rfl rfl rfl rfl rfl ?_
      refine Y_iload_n rfl rfl ?_
      refine Y_iload rfl rfl ?_
      refine Y_bipush rfl ?_
      refine Y_icmp_lt_f rfl ((by rw [e10]; exact nI_nlt (b := 10) (by omega) (by omega))) ?_
      refine Y_iconst rfl ?_
      refine Y_goto rfl ?_
      refine Y_isub rfl ?_
      refine Y_icmp_ne_f rfl ((by rw [show T = T - 1 + 1 by omega, nI_pred]; rfl)) ?_
      refine Y_aload_n rfl rfl ?_
      refine Y_iconst rfl ?_
      refine Y_look (lk_c1 hG1 hπ1 hm1 hn1) rfl rfl rfl rfl rfl ?_
      refine Y_iload rfl rfl ?_
      refine Y_iload rfl rfl ?_
      refine Y_bipush rfl ?_
      refine Y_icmp_lt_f rfl ((by rw [e10]; exact nI_nlt (b := 10) (by omega) (by omega))) ?_
      refine Y_iload rfl rfl ?_
      refine Y_iload rfl rfl ?_
      refine Y_isub rfl ?_
      refine Y_goto rfl ?_
      refine Y_isub rfl ?_
      refine Y_icmp_ne_f rfl ((by rw [e2]; grind)) ?_
      refine Y_iconst rfl ?_
      refine Y_goto rfl ?_
      exact Y_ret rfl rfl (fun S hS => PA_ret ac hn4 S hS)
    · rw [glR, hb, cond_true, if_neg h0] at dx
      rw [glA, hb, cond_true, if_neg h0, ecg, decide_eq_false (fun q => h0 (hst.mpr q))]
      have hg : GR (upd (S0 2) 98 (S0 2 98 + 1)) T := GR_u hG (by decide)
      have ac := DX_AC hH hG hP dx hg
      have e2 := dx.2.1
      have hG1 : GR (S1 2) T := by rw [e2]; exact hg
      obtain ⟨π1, hπ1⟩ := hG1.2.2.1
      obtain ⟨m1, hm1, -⟩ := ac.2.2.2.1
      refine Y_ist_19_18 rfl rfl ?_
      refine Y_iload rfl rfl ?_
      refine Y_iload rfl rfl ?_
      refine Y_if_eq_t rfl (rfl) ?_
      refine Y_iload rfl rfl ?_
      refine Y_bipush rfl ?_
      refine Y_icmp_ne_t rfl (fV_ne hG hπ (by omega) (by omega) hb) ?_
      refine Y_iload rfl rfl ?_
      refine Y_if_eq_t rfl (rfl) ?_
      refine Y_iconst rfl ?_
      refine Y_icmp_ne_f rfl (rfl) ?_
      refine Y_aload_n rfl rfl ?_
      refine Y_bipush rfl ?_
      refine Y_look (lk_c9 hG1 hπ1 hm1 hn1) rfl rfl rfl rfl rfl ?_
      refine Y_iload rfl rfl ?_
      refine Y_iload rfl rfl ?_
      refine Y_iconst rfl ?_
      refine Y_icmp_eq_f rfl ((by decide)) ?_
      refine Y_iload rfl rfl ?_
      refine Y_iconst rfl ?_
      refine Y_icmp_ne_f rfl (rfl) ?_
      refine Y_iconst rfl ?_
      refine Y_goto rfl ?_
      refine Y_iadd rfl ?_
      refine Y_icmp_ne_f rfl ((by rw [e2, upd_same])) ?_
      refine Y_aload_n rfl rfl ?_
      refine Y_bipush rfl ?_
      refine Y_look (lk_c11 hG1 hπ1 hm1 hn1) rfl rfl rfl rfl rfl ?_
      refine Y_iload rfl rfl ?_
      refine Y_iload rfl rfl ?_
      refine Y_bipush rfl ?_
      refine Y_icmp_lt_t rfl ((by decide)) ?_
      refine Y_iconst rfl ?_
      refine Y_iadd rfl ?_
      refine Y_v (Int32.add_zero _) ?_
      refine Y_icmp_ne_f rfl ((by rw [e2, upd_ne (by decide)])) ?_
      refine Y_aload_n rfl rfl ?_
      refine Y_iconst rfl ?_
      refine Y_look (lk_c0 hG1 hπ1 hm1 hn1) rfl rfl rfl rfl rfl ?_
      refine Y_iload_n rfl rfl ?_
      refine Y_iload rfl rfl ?_
      refine Y_bipush rfl ?_
      refine Y_icmp_lt_t rfl ((by decide)) ?_
      refine Y_iconst rfl ?_
      refine Y_isub rfl ?_
      refine Y_v (y := nI T) (Int32.sub_zero _) ?_
      refine Y_icmp_ne_f rfl (rfl) ?_
      refine Y_aload_n rfl rfl ?_
      refine Y_iconst rfl ?_
      refine Y_look (lk_c1 hG1 hπ1 hm1 hn1) rfl rfl rfl rfl rfl ?_
      refine Y_iload rfl rfl ?_
      refine Y_iload rfl rfl ?_
      refine Y_bipush rfl ?_
      refine Y_icmp_lt_t rfl ((by decide)) ?_
      refine Y_iconst rfl ?_
      refine Y_isub rfl ?_
      refine Y_v (Int32.sub_zero _) ?_
      refine Y_icmp_ne_f rfl ((by rw [e2, tAll_cnt hg.1, tAll_cnt hG.1, cnt_hi (by decide)])) ?_
      refine Y_iconst rfl ?_
      refine Y_goto rfl ?_
      exact Y_ret rfl rfl (fun S hS => PA_ret ac hn4 S hS)
theorem gl_bad (hH : HI S0 R n) (hG : GR (S0 2) T) (hπ : Pot (S0 2) π) (hP : PD S0 m) (hb : ¬ (tIs (S0 2) (nI t) = true ∧ tIs (S0 2) (nI o) = true ∧ nI t ≠ nI o)) : Y 0 (fun _ => 0) kLaw_deeds 24 704 [some (.ref 0), some (.int how), some (.int y), some (.int (nI T)), some (.int (nI t)), some (.int (b2i (decide (t = T)))), some (.int (S0 2 98)), some (.int (nI (tAll (S0 2) T))), some (.int I), some (.int a), some (.int b), some (.int (nI o)), some (.int 1), l13, l14, l15, l16, l17, l18] [] S0 R (PA S0 R n) := by
  have hn4 := hH.2.2.1
  refine Y_iload rfl rfl ?_
  refine Y_if_eq_f rfl ((by decide)) ?_
  refine Y_bipush rfl ?_
  refine Y_goto rfl ?_
  refine Y_ist_19_13 rfl rfl ?_
  refine Y_iconst rfl ?_
  refine Y_ist_19_14 rfl rfl ?_
  refine Y_iconst rfl ?_
  refine Y_ist_19_15 rfl rfl ?_
  refine Y_iconst rfl ?_
  refine Y_ist_19_16 rfl rfl ?_
  refine Y_iload rfl rfl ?_
  refine Y_bipush rfl ?_
  refine Y_icmp_ge_f rfl ((by decide)) ?_
  refine Y_iload rfl rfl ?_
  refine Y_if_ne_t rfl ((by decide)) ?_
  refine Y_iload rfl rfl ?_
  refine Y_if_eq_f rfl ((by decide)) ?_
  refine Y_iconst rfl ?_
  refine Y_goto rfl ?_
  refine Y_ist_19_16 rfl rfl ?_
  refine Y_aload_n rfl rfl ?_
  refine Y_bipush rfl ?_
  refine Y_look (lk_c11 hG hπ hP.1 hH.2.1) rfl rfl rfl rfl rfl ?_
  refine Y_ist_19_17 rfl rfl ?_
  refine Y_aload_n rfl rfl ?_
  refine Y_iload rfl rfl ?_
  refine Y_iload rfl rfl ?_
  refine Y_look (md_glue0 hb) rfl rfl rfl rfl rfl ?_
  refine Y_ist_19_18 rfl rfl ?_
  refine Y_iload rfl rfl ?_
  refine Y_iload rfl rfl ?_
  refine Y_if_eq_f rfl ((by decide)) ?_
  refine Y_iconst rfl ?_
  refine Y_goto rfl ?_
  refine Y_icmp_ne_f rfl (rfl) ?_
  refine Y_aload_n rfl rfl ?_
  refine Y_bipush rfl ?_
  refine Y_look (lk_c9 hG hπ hP.1 hH.2.1) rfl rfl rfl rfl rfl ?_
  refine Y_iload rfl rfl ?_
  refine Y_iload rfl rfl ?_
  refine Y_iconst rfl ?_
  refine Y_icmp_eq_f rfl ((by decide)) ?_
  refine Y_iload rfl rfl ?_
  refine Y_iconst rfl ?_
  refine Y_icmp_ne_t rfl ((by decide)) ?_
  refine Y_iconst rfl ?_
  refine Y_iadd rfl ?_
  refine Y_v (Int32.add_zero _) ?_
  refine Y_icmp_ne_f rfl (rfl) ?_
  refine Y_aload_n rfl rfl ?_
  refine Y_bipush rfl ?_
  refine Y_look (lk_c11 hG hπ hP.1 hH.2.1) rfl rfl rfl rfl rfl ?_
  refine Y_iload rfl rfl ?_
  refine Y_iload rfl rfl ?_
  refine Y_bipush rfl ?_
  refine Y_icmp_lt_t rfl ((by decide)) ?_
  refine Y_iconst rfl ?_
  refine Y_iadd rfl ?_
  refine Y_v (Int32.add_zero _) ?_
  refine Y_icmp_ne_f rfl (rfl) ?_
  refine Y_aload_n rfl rfl ?_
  refine Y_iconst rfl ?_
  refine Y_look (lk_c0 hG hπ hP.1 hH.2.1) rfl rfl rfl rfl rfl ?_
  refine Y_iload_n rfl rfl ?_
  refine Y_iload rfl rfl ?_
  refine Y_bipush rfl ?_
  refine Y_icmp_lt_t rfl ((by decide)) ?_
  refine Y_iconst rfl ?_
  refine Y_isub rfl ?_
  refine Y_v (y := nI T) (Int32.sub_zero _) ?_
  refine Y_icmp_ne_f rfl (rfl) ?_
  refine Y_aload_n rfl rfl ?_
  refine Y_iconst rfl ?_
  refine Y_look (lk_c1 hG hπ hP.1 hH.2.1) rfl rfl rfl rfl rfl ?_
  refine Y_iload rfl rfl ?_
  refine Y_iload rfl rfl ?_
  refine Y_bipush rfl ?_
  refine Y_icmp_lt_t rfl ((by decide)) ?_
  refine Y_iconst rfl ?_
  refine Y_isub rfl ?_
  refine Y_v (Int32.sub_zero _) ?_
  refine Y_icmp_ne_f rfl (rfl) ?_
  refine Y_iconst rfl ?_
  refine Y_goto rfl ?_
  exact Y_ret rfl rfl (fun S hS => PA_ret (AC_rf hH hG hP) hn4 S hS)
theorem gl_all (hH : HI S0 R n) (hG : GR (S0 2) T) (hπ : Pot (S0 2) π) (hP : PD S0 m) (ht : t ≤ T) : Y 0 (fun _ => 0) kLaw_deeds 24 668 [some (.ref 0), some (.int how), some (.int y), some (.int (nI T)), some (.int (nI t)), some (.int (b2i (decide (t = T)))), some (.int (S0 2 98)), some (.int (nI (tAll (S0 2) T))), some (.int I), some (.int a), some (.int b), l11, l12, l13, l14, l15, l16, l17, l18] [] S0 R (PA S0 R n) := by
  have h8 := hG.1.2.1
  refine Y_iload_n rfl rfl ?_
  refine Y_iconst rfl ?_
  refine Y_ishr rfl ?_
  refine Y_iload_n rfl rfl ?_
  refine Y_iconst rfl ?_
  refine Y_iadd rfl ?_
  refine Y_v (nI_1 T) ?_
  refine Y_lookS (lk_low (N := T + 1) (by omega) (by omega) _) rfl rfl rfl rfl ?_
  have ho : lw (y >>> (4 &&& 31)) (T + 1) ≤ T := by have := lw_lt (v := y >>> (4 &&& 31)) (n := T + 1) (by omega); omega
  generalize lw (y >>> (4 &&& 31)) (T + 1) = o at ho ⊢
  have B := fun hb => gl_bad (t := t) (o := o) (n := n) (m := m) (y := y) (how := how) (I := I) (a := a) (b := b) (l13 := l13) (l14 := l14) (l15 := l15) (l16 := l16) (l17 := l17) (l18 := l18) hH hG hπ hP hb
  by_cases e : t = T
  · have B := B (fun q => by rw [e, tIs_T hG.1] at q; cases q.1)
    rw [decide_eq_true e] at B ⊢
    refine Y_ist_19_11 rfl rfl ?_
    refine Y_iload rfl rfl ?_
    refine Y_if_ne_t rfl ((by decide)) ?_
    refine Y_iconst rfl ?_
    refine Y_goto rfl ?_
    refine Y_ist_19_12 rfl rfl ?_
    exact B
  · have ht : t < T := by omega
    have Gd := fun (h1 : o < T) (h2 : t ≠ o) => gl_good (t := t) (o := o) (n := n) (m := m) (y := y) (how := how) (I := I) (a := a) (b := b) (l14 := l14) (l15 := l15) (l16 := l16) (l17 := l17) (l18 := l18) hH hG hπ hP ht h1 h2
    rw [decide_eq_false e] at B Gd ⊢
    refine Y_ist_19_11 rfl rfl ?_
    refine Y_iload rfl rfl ?_
    refine Y_if_ne_f rfl (rfl) ?_
    by_cases e1 : o = t
    · refine Y_iload rfl rfl ?_
      refine Y_iload rfl rfl ?_
      refine Y_icmp_eq_t rfl (congrArg nI e1) ?_
      refine Y_iconst rfl ?_
      refine Y_goto rfl ?_
      refine Y_ist_19_12 rfl rfl ?_
      exact B (fun q => q.2.2 (by rw [e1]))
    · refine Y_iload rfl rfl ?_
      refine Y_iload rfl rfl ?_
      refine Y_icmp_eq_f rfl ((fun q => e1 ((nI_eq (by omega) (by omega)).mp q))) ?_
      by_cases e2 : o = T
      · refine Y_iload rfl rfl ?_
        refine Y_iload_n rfl rfl ?_
        refine Y_icmp_ne_f rfl (congrArg nI e2) ?_
        refine Y_iconst rfl ?_
        refine Y_goto rfl ?_
        refine Y_ist_19_12 rfl rfl ?_
        exact B (fun q => by rw [e2, tIs_T hG.1] at q; cases q.2.1)
      · refine Y_iload rfl rfl ?_
        refine Y_iload_n rfl rfl ?_
        refine Y_icmp_ne_t rfl ((fun q => e2 ((nI_eq (by omega) (by omega)).mp q))) ?_
        refine Y_iconst rfl ?_
        refine Y_ist_19_12 rfl rfl ?_
        refine Y_iload rfl rfl ?_
        refine Y_if_eq_t rfl (rfl) ?_
        refine Y_aload_n rfl rfl ?_
        refine Y_iload rfl rfl ?_
        refine Y_iload rfl rfl ?_
        refine Y_look (lk_zeros hG hπ ht (show o < T by omega)) rfl rfl rfl rfl rfl ?_
        refine Y_ist_19_13 rfl rfl ?_
        exact Gd (by omega) (fun q => e1 q.symm)
/-! all deeds -/
theorem dd_how (hH : HI S0 R n) (hG : GR (S0 2) T) (hπ : Pot (S0 2) π) (hP : PD S0 m) (h3 : how = 0 ∨ how = 1 ∨ how = 2) : MM S0 R kLaw_deeds [.ref 0, .int how, .int y] (fun w S1 R1 => w = .int 1 ∧ AC S0 R n S1 R1) := by
  have h8 := hG.1.2.1
  have ht : lw y (T + 1) ≤ T := by have := lw_lt (v := y) (n := T + 1) (by omega); omega
  obtain ⟨I, a, b, hD⟩ := TD_ex hG ht
  refine MM_mk [some (.ref 0), some (.int how), some (.int y), none, none, none, none, none, none, none, none, none, none, none, none, none, none, none, none] rfl rfl rfl rfl rfl ?_
  refine dd_start hH hG hπ hP rfl hD ?_
  rcases h3 with rfl | rfl | rfl
  · have fin := fun v => sh_all (y := y) (how := 0) (l11 := none) (l12 := none) (l13 := none) (l14 := none) (l15 := none) (l16 := none) (l17 := none) (l18 := none) hH hG hπ hP ht hD v
    refine Y_iload_n rfl rfl ?_
    refine Y_if_ne_f rfl (rfl) ?_
    refine Y_iload_n rfl rfl ?_
    refine Y_iconst rfl ?_
    refine Y_ishr rfl ?_
    refine Y_iload_n rfl rfl ?_
    refine Y_bipush rfl ?_
    refine Y_ishr rfl ?_
    refine Y_iconst rfl ?_
    refine Y_lookS (lk_low (N := 3) (by decide) (by decide) _) rfl rfl rfl rfl ?_
    by_cases h0 : nI (lw (y >>> (16 &&& 31)) 3) = 0
    · refine Y_if_ne_f rfl (h0) ?_
      refine Y_sipush rfl ?_
      refine Y_goto rfl ?_
      refine Y_lookS (lk_low (N := 2003) (by decide) (by decide) _) rfl rfl rfl rfl ?_
      refine Y_iload_n rfl rfl ?_
      refine Y_bipush rfl ?_
      refine Y_ishr rfl ?_
      refine Y_iconst rfl ?_
      refine Y_lookS (lk_low (N := 3) (by decide) (by decide) _) rfl rfl rfl rfl ?_
      refine Y_if_ne_f rfl (h0) ?_
      refine Y_sipush rfl ?_
      refine Y_goto rfl ?_
      refine Y_isub rfl ?_
      exact fin _
    · refine Y_if_ne_t rfl (h0) ?_
      refine Y_bipush rfl ?_
      refine Y_lookS (lk_low (N := 61) (by decide) (by decide) _) rfl rfl rfl rfl ?_
      refine Y_iload_n rfl rfl ?_
      refine Y_bipush rfl ?_
      refine Y_ishr rfl ?_
      refine Y_iconst rfl ?_
      refine Y_lookS (lk_low (N := 3) (by decide) (by decide) _) rfl rfl rfl rfl ?_
      refine Y_if_ne_t rfl (h0) ?_
      refine Y_bipush rfl ?_
      refine Y_isub rfl ?_
      exact fin _
  · have fin := fun v => ct_all (y := y) (how := 1) (l11 := none) (l12 := none) (l13 := none) (l14 := none) (l15 := none) (l16 := none) (l17 := none) (l18 := none) hH hG hπ hP ht hD v
    refine Y_iload_n rfl rfl ?_
    refine Y_if_ne_t rfl ((by decide)) ?_
    refine Y_iload_n rfl rfl ?_
    refine Y_iconst rfl ?_
    refine Y_icmp_ne_f rfl (rfl) ?_
    refine Y_iload_n rfl rfl ?_
    refine Y_iconst rfl ?_
    refine Y_ishr rfl ?_
    refine Y_iload_n rfl rfl ?_
    refine Y_bipush rfl ?_
    refine Y_ishr rfl ?_
    refine Y_iconst rfl ?_
    refine Y_lookS (lk_low (N := 3) (by decide) (by decide) _) rfl rfl rfl rfl ?_
    by_cases h0 : nI (lw (y >>> (16 &&& 31)) 3) = 0
    · refine Y_if_ne_f rfl (h0) ?_
      refine Y_sipush rfl ?_
      refine Y_goto rfl ?_
      refine Y_lookS (lk_low (N := 2003) (by decide) (by decide) _) rfl rfl rfl rfl ?_
      refine Y_iload_n rfl rfl ?_
      refine Y_bipush rfl ?_
      refine Y_ishr rfl ?_
      refine Y_iconst rfl ?_
      refine Y_lookS (lk_low (N := 3) (by decide) (by decide) _) rfl rfl rfl rfl ?_
      refine Y_if_ne_f rfl (h0) ?_
      refine Y_sipush rfl ?_
      refine Y_goto rfl ?_
      refine Y_isub rfl ?_
      exact fin _
    · refine Y_if_ne_t rfl (h0) ?_
      refine Y_bipush rfl ?_
      refine Y_lookS (lk_low (N := 61) (by decide) (by decide) _) rfl rfl rfl rfl ?_
      refine Y_iload_n rfl rfl ?_
      refine Y_bipush rfl ?_
      refine Y_ishr rfl ?_
      refine Y_iconst rfl ?_
      refine Y_lookS (lk_low (N := 3) (by decide) (by decide) _) rfl rfl rfl rfl ?_
      refine Y_if_ne_t rfl (h0) ?_
      refine Y_bipush rfl ?_
      refine Y_isub rfl ?_
      exact fin _
  · refine Y_iload_n rfl rfl ?_
    refine Y_if_ne_t rfl ((by decide)) ?_
    refine Y_iload_n rfl rfl ?_
    refine Y_iconst rfl ?_
    refine Y_icmp_ne_t rfl ((by decide)) ?_
    exact gl_all hH hG hπ hP ht
end GLUE
