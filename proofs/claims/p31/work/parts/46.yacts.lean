/-! the law's acts: a tape, a lost reading, a dropped tape -/
/-- the end of an act: 1, and what the law may say of it -/
def PA (S0 : Sf) (R : Rf) (n : Nat) : Po := fun r S' R' => ∃ w, r = some w ∧ okR (some .boolean) (some w) ∧ (w = .int 1 ∧ AC S0 R n S' R')
theorem PA_ret {S0 S1 : Sf} {R R1 : Rf} {n : Nat} (ac : AC S0 R n S1 R1) (hn4 : n ≤ 4) : ∀ S, LK S1 S → PA S0 R n (some (.int 1)) S R1 := fun _ hS => ⟨_, rfl, rfl, rfl, AC_lk ac hn4 hS⟩
section ACTS
variable {S0 : Sf} {R : Rf} {T n m : Nat} {π : Nat → Int32} {t p h : Nat} {x y : Int32} {l10 l11 l12 l13 l14 : Option Value}
theorem tOf_new {row : Nat → Int32} (hT : NT row T) (h8 : T < 8) : tOf (upd row 96 (nI (T + 1))) (nI T) 12 = 0 := by
  rw [tOf_hsn h8 12 (Nat.le_refl 12)]
  exact cnt_0.mpr (fun i hi => by
    rw [hs_cg (upd_ne (show T * 12 + i ≠ 96 by omega))]
    unfold hs
    rw [hT.2.2 _ (by omega) (by omega)]
    rfl)
theorem at_tape (hH : HI S0 R n) (hG : GR (S0 2) T) (hπ : Pot (S0 2) π) (hP : PD S0 m) (h4 : h < 4) : Y 0 (fun _ => 0) kLaw_acts 24 108 [some (.ref 0), some (.int x), some (.int y), some (.int (nI h)), some (.int (nI T)), some (.int (nI (tAll (S0 2) T))), some (.int (nI t)), some (.int (nI p)), some (.int (b2i (decide (t = T) || decide (p = 12)))), some (.int (S0 2 98)), l10, l11, l12, l13, l14] [] S0 R (PA S0 R n) := by
  have hT8 := hG.1.2.1
  refine Y_iload_n rfl rfl ?_
  refine Y_iconst rfl ?_
  refine Y_icmp_ge_f rfl (nI_ge (b := 4) h4 (by decide)) ?_
  by_cases h8 : T < 8
  · refine Y_aload_n rfl rfl ?_
    refine Y_deed (md_tape hH hG h8) rfl rfl rfl rfl rfl (fun w S1 R1 hQ => ?_)
    obtain ⟨rfl, dx⟩ := hQ
    have ac := DX_AC hH hG hP dx (GR_tape hG h8)
    have e2 := dx.2.1
    have hG1 : GR (S1 2) (T + 1) := by rw [e2]; exact GR_tape hG h8
    obtain ⟨π1, hπ1⟩ := hG1.2.2.1
    obtain ⟨m1, hm1, -⟩ := ac.2.2.2.1
    have hn1 := DX_n dx
    have t8 : nI T ≠ 8 := fun e => by have := (nI_eq (a := T) (b := 8) (by omega) (by decide)).mp e; omega
    refine Y_iload rfl rfl ?_
    refine Y_bipush rfl ?_
    refine Y_icmp_ne_t rfl (t8) ?_
    refine Y_iload rfl rfl ?_
    refine Y_icmp_ne_f rfl (rfl) ?_
    refine Y_aload_n rfl rfl ?_
    refine Y_iconst rfl ?_
    refine Y_look (lk_c0 hG1 hπ1 hm1 hn1) rfl rfl rfl rfl rfl ?_
    refine Y_iload rfl rfl ?_
    refine Y_bipush rfl ?_
    refine Y_icmp_ne_t rfl (t8) ?_
    refine Y_iload rfl rfl ?_
    refine Y_iconst rfl ?_
    refine Y_iadd rfl ?_
    refine Y_icmp_ne_f rfl ((nI_succ T)) ?_
    refine Y_iload rfl rfl ?_
    refine Y_bipush rfl ?_
    refine Y_icmp_eq_f rfl (t8) ?_
    refine Y_aload_n rfl rfl ?_
    refine Y_iload rfl rfl ?_
    refine Y_iconst rfl ?_
    refine Y_look (lk_t0 hG1 (t := T) (by omega)) rfl rfl rfl rfl rfl ?_
    refine Y_if_ne_f rfl ((by rw [e2, tOf_new hG.1 h8]; rfl)) ?_
    refine Y_iconst rfl ?_
    refine Y_goto rfl ?_
    exact Y_ret rfl rfl (fun S hS => PA_ret ac hH.2.2.1 S hS)
  · have eT : T = 8 := by omega
    subst eT
    refine Y_aload_n rfl rfl ?_
    refine Y_look (md_tape0 hG h8) rfl rfl rfl rfl rfl ?_
    refine Y_iload rfl rfl ?_
    refine Y_bipush rfl ?_
    refine Y_icmp_ne_f rfl (rfl) ?_
    refine Y_bipush rfl ?_
    refine Y_goto rfl ?_
    refine Y_icmp_ne_f rfl (rfl) ?_
    refine Y_aload_n rfl rfl ?_
    refine Y_iconst rfl ?_
    refine Y_look (lk_c0 hG hπ hP.1 hH.2.1) rfl rfl rfl rfl rfl ?_
    refine Y_iload rfl rfl ?_
    refine Y_bipush rfl ?_
    refine Y_icmp_ne_f rfl (rfl) ?_
    refine Y_bipush rfl ?_
    refine Y_goto rfl ?_
    refine Y_icmp_ne_f rfl (rfl) ?_
    refine Y_iload rfl rfl ?_
    refine Y_bipush rfl ?_
    refine Y_icmp_eq_t rfl (rfl) ?_
    refine Y_iconst rfl ?_
    refine Y_goto rfl ?_
    exact Y_ret rfl rfl (fun S hS => PA_ret (AC_rf hH hG hP) hH.2.2.1 S hS)
theorem NONE_rv {row : Nat → Int32} {j : Nat} : rv (upd row j NONE) j = -4 := rv_f (by rw [hs_up2, if_pos rfl]; rfl)
theorem at_lose (hH : HI S0 R n) (hG : GR (S0 2) T) (hπ : Pot (S0 2) π) (hP : PD S0 m) (ht : t ≤ T) (hp : p ≤ 12) (h19 : h < 19) : Y 0 (fun _ => 0) kLaw_acts 24 462 [some (.ref 0), some (.int x), some (.int y), some (.int (nI h)), some (.int (nI T)), some (.int (nI (tAll (S0 2) T))), some (.int (nI t)), some (.int (nI p)), some (.int (b2i (decide (t = T) || decide (p = 12)))), some (.int (S0 2 98)), l10, l11, l12, l13, l14] [] S0 R (PA S0 R n) := by
  have hT8 := hG.1.2.1
  have hn4 := hH.2.2.1
  refine Y_iload_n rfl rfl ?_
  refine Y_bipush rfl ?_
  refine Y_icmp_ge_f rfl (nI_ge (b := 19) h19 (by decide)) ?_
  by_cases hno : t = T ∨ p = 12
  · have eb : (decide (t = T) || decide (p = 12)) = true := by
      rcases hno with e | e
      · rw [decide_eq_true e, Bool.true_or]
      · rw [decide_eq_true e, Bool.or_true]
    have ebad : (tIs (S0 2) (nI t) && isPt (nI p)) = false := by
      rcases hno with e | e
      · rw [e, tIs_T hG.1, Bool.false_and]
      · rw [e]; rw [Bool.and_eq_false_iff]; right; decide
    rw [eb]
    refine Y_iload rfl rfl ?_
    refine Y_if_ne_t rfl ((by decide)) ?_
    refine Y_iconst rfl ?_
    refine Y_ist_15_10 rfl rfl ?_
    refine Y_aload_n rfl rfl ?_
    refine Y_iload rfl rfl ?_
    refine Y_iload rfl rfl ?_
    refine Y_look (md_lose0 ebad) rfl rfl rfl rfl rfl ?_
    refine Y_iload rfl rfl ?_
    refine Y_if_eq_f rfl ((by decide)) ?_
    refine Y_iconst rfl ?_
    refine Y_goto rfl ?_
    refine Y_icmp_ne_f rfl (rfl) ?_
    refine Y_aload_n rfl rfl ?_
    refine Y_bipush rfl ?_
    refine Y_look (lk_c9 hG hπ hP.1 hH.2.1) rfl rfl rfl rfl rfl ?_
    refine Y_iload rfl rfl ?_
    refine Y_iload rfl rfl ?_
    refine Y_if_ne_f rfl (rfl) ?_
    refine Y_iload rfl rfl ?_
    refine Y_if_eq_f rfl ((by decide)) ?_
    refine Y_iconst rfl ?_
    refine Y_goto rfl ?_
    refine Y_iadd rfl ?_
    refine Y_v (Int32.add_zero _) ?_
    refine Y_icmp_ne_f rfl (rfl) ?_
    refine Y_iload rfl rfl ?_
    refine Y_if_ne_t rfl ((by decide)) ?_
    refine Y_iconst rfl ?_
    refine Y_goto rfl ?_
    exact Y_ret rfl rfl (fun S hS => PA_ret (AC_rf hH hG hP) hn4 S hS)
  · have ht : t < T := by omega
    have hp : p < 12 := by omega
    rw [show (decide (t = T) || decide (p = 12)) = false by rw [decide_eq_false (show ¬ t = T by omega), decide_eq_false (show ¬ p = 12 by omega)]; rfl]
    refine Y_iload rfl rfl ?_
    refine Y_if_ne_f rfl (rfl) ?_
    refine Y_aload_n rfl rfl ?_
    refine Y_iload rfl rfl ?_
    refine Y_iload rfl rfl ?_
    refine Y_look (lk_reading hG ht hp) rfl rfl rfl rfl rfl ?_
    cases hh : hs (S0 2) (t * 12 + p) with
    | true =>
      refine Y_bipush rfl ?_
      refine Y_icmp_eq_f rfl (rv_ne hG.2.1 (by omega) hh) ?_
      refine Y_iconst rfl ?_
      refine Y_goto rfl ?_
      refine Y_ist_15_10 rfl rfl ?_
      refine Y_aload_n rfl rfl ?_
      refine Y_iload rfl rfl ?_
      refine Y_iload rfl rfl ?_
      refine Y_deed (md_lose hH hG ht hp) rfl rfl rfl rfl rfl (fun w S1 R1 hQ => ?_)
      obtain ⟨rfl, dx⟩ := hQ
      rw [loR, if_pos hh] at dx
      rw [loA, if_pos hh]
      have hg := GR_lose hG (show t * 12 + p < 96 by omega)
      have ac := DX_AC hH hG hP dx hg
      have e2 := dx.2.1
      have hG1 : GR (S1 2) T := by rw [e2]; exact hg
      obtain ⟨π1, hπ1⟩ := hG1.2.2.1
      obtain ⟨m1, hm1, -⟩ := ac.2.2.2.1
      have hn1 := DX_n dx
      have hc := cnt_lose (show t * 12 + p < 96 by omega) hh
      rw [← tAll_cnt hg.1, ← tAll_cnt hG.1] at hc
      refine Y_iload rfl rfl ?_
      refine Y_if_eq_t rfl (rfl) ?_
      refine Y_iload rfl rfl ?_
      refine Y_if_eq_f rfl ((by decide)) ?_
      refine Y_bipush rfl ?_
      refine Y_iload rfl rfl ?_
      refine Y_iadd rfl ?_
      refine Y_goto rfl ?_
      refine Y_icmp_ne_f rfl ((by rw [← hc, nI_succ]; grind)) ?_
      refine Y_aload_n rfl rfl ?_
      refine Y_bipush rfl ?_
      refine Y_look (lk_c9 hG1 hπ1 hm1 hn1) rfl rfl rfl rfl rfl ?_
      refine Y_iload rfl rfl ?_
      refine Y_iload rfl rfl ?_
      refine Y_if_ne_t rfl ((by decide)) ?_
      refine Y_iconst rfl ?_
      refine Y_goto rfl ?_
      refine Y_iadd rfl ?_
      refine Y_v (Int32.add_zero _) ?_
      refine Y_icmp_ne_f rfl ((by rw [e2, upd_ne (by omega)])) ?_
      refine Y_iload rfl rfl ?_
      refine Y_if_ne_f rfl (rfl) ?_
      refine Y_aload_n rfl rfl ?_
      refine Y_iload rfl rfl ?_
      refine Y_iload rfl rfl ?_
      refine Y_look (lk_reading hG1 ht hp) rfl rfl rfl rfl rfl ?_
      refine Y_bipush rfl ?_
      refine Y_icmp_ne_f rfl ((by rw [e2]; exact NONE_rv)) ?_
      refine Y_iconst rfl ?_
      refine Y_goto rfl ?_
      exact Y_ret rfl rfl (fun S hS => PA_ret ac hn4 S hS)
    | false =>
      refine Y_bipush rfl ?_
      refine Y_icmp_eq_t rfl (rv_f hh) ?_
      refine Y_iconst rfl ?_
      refine Y_ist_15_10 rfl rfl ?_
      refine Y_aload_n rfl rfl ?_
      refine Y_iload rfl rfl ?_
      refine Y_iload rfl rfl ?_
      refine Y_deed (md_lose hH hG ht hp) rfl rfl rfl rfl rfl (fun w S1 R1 hQ => ?_)
      obtain ⟨rfl, dx⟩ := hQ
      have hh' : ¬ hs (S0 2) (t * 12 + p) = true := by rw [hh]; decide
      rw [loR, if_neg hh'] at dx
      rw [loA, if_neg hh']
      have hg : GR (upd (S0 2) 98 (S0 2 98 + 1)) T := GR_u hG (by decide)
      have ac := DX_AC hH hG hP dx hg
      have e2 := dx.2.1
      have hG1 : GR (S1 2) T := by rw [e2]; exact hg
      obtain ⟨π1, hπ1⟩ := hG1.2.2.1
      obtain ⟨m1, hm1, -⟩ := ac.2.2.2.1
      have hn1 := DX_n dx
      refine Y_iload rfl rfl ?_
      refine Y_if_eq_t rfl (rfl) ?_
      refine Y_iload rfl rfl ?_
      refine Y_if_eq_t rfl (rfl) ?_
      refine Y_iconst rfl ?_
      refine Y_icmp_ne_f rfl (rfl) ?_
      refine Y_aload_n rfl rfl ?_
      refine Y_bipush rfl ?_
      refine Y_look (lk_c9 hG1 hπ1 hm1 hn1) rfl rfl rfl rfl rfl ?_
      refine Y_iload rfl rfl ?_
      refine Y_iload rfl rfl ?_
      refine Y_if_ne_f rfl (rfl) ?_
      refine Y_iload rfl rfl ?_
      refine Y_if_eq_t rfl (rfl) ?_
      refine Y_iconst rfl ?_
      refine Y_iadd rfl ?_
      refine Y_icmp_ne_f rfl ((by rw [e2, upd_same])) ?_
      refine Y_iload rfl rfl ?_
      refine Y_if_ne_f rfl (rfl) ?_
      refine Y_aload_n rfl rfl ?_
      refine Y_iload rfl rfl ?_
      refine Y_iload rfl rfl ?_
      refine Y_look (lk_reading hG1 ht hp) rfl rfl rfl rfl rfl ?_
      refine Y_bipush rfl ?_
      refine Y_icmp_ne_f rfl ((by rw [e2]; exact rv_f (by rw [hs_cg (upd_ne (by omega))]; exact hh))) ?_
      refine Y_iconst rfl ?_
      refine Y_goto rfl ?_
      exact Y_ret rfl rfl (fun S hS => PA_ret ac hn4 S hS)
theorem at_drop (hH : HI S0 R n) (hG : GR (S0 2) T) (hπ : Pot (S0 2) π) (hP : PD S0 m) (ht : t ≤ T) (h26 : h = 26) : Y 0 (fun _ => 0) kLaw_acts 24 611 [some (.ref 0), some (.int x), some (.int y), some (.int (nI h)), some (.int (nI T)), some (.int (nI (tAll (S0 2) T))), some (.int (nI t)), some (.int (nI p)), some (.int (b2i (decide (t = T) || decide (p = 12)))), some (.int (S0 2 98)), l10, l11, l12, l13, l14] [] S0 R (PA S0 R n) := by
  have hT8 := hG.1.2.1
  have hn4 := hH.2.2.1
  subst h26
  refine Y_iload_n rfl rfl ?_
  refine Y_bipush rfl ?_
  refine Y_icmp_ne_f rfl (rfl) ?_
  by_cases e : t = T
  · refine Y_iload rfl rfl ?_
    refine Y_iload rfl rfl ?_
    refine Y_icmp_ne_f rfl (congrArg nI e) ?_
    refine Y_iconst rfl ?_
    refine Y_goto rfl ?_
    refine Y_ist_15_10 rfl rfl ?_
    refine Y_aload_n rfl rfl ?_
    refine Y_iload rfl rfl ?_
    refine Y_look (md_drop0 (by rw [e]; exact tIs_T hG.1)) rfl rfl rfl rfl rfl ?_
    refine Y_iload rfl rfl ?_
    refine Y_iload rfl rfl ?_
    refine Y_icmp_ne_f rfl (congrArg nI e) ?_
    refine Y_iconst rfl ?_
    refine Y_goto rfl ?_
    refine Y_icmp_ne_f rfl (rfl) ?_
    refine Y_aload_n rfl rfl ?_
    refine Y_iconst rfl ?_
    refine Y_look (lk_c0 hG hπ hP.1 hH.2.1) rfl rfl rfl rfl rfl ?_
    refine Y_iload rfl rfl ?_
    refine Y_iload rfl rfl ?_
    refine Y_iload rfl rfl ?_
    refine Y_icmp_ne_f rfl (congrArg nI e) ?_
    refine Y_iconst rfl ?_
    refine Y_goto rfl ?_
    refine Y_isub rfl ?_
    refine Y_v (y := nI T) (by grind) ?_
    refine Y_icmp_ne_f rfl (rfl) ?_
    refine Y_aload_n rfl rfl ?_
    refine Y_iconst rfl ?_
    refine Y_look (lk_c1 hG hπ hP.1 hH.2.1) rfl rfl rfl rfl rfl ?_
    refine Y_iload rfl rfl ?_
    refine Y_iload rfl rfl ?_
    refine Y_isub rfl ?_
    refine Y_v (y := nI (tAll (S0 2) T)) (by grind) ?_
    refine Y_icmp_ne_f rfl (rfl) ?_
    refine Y_iconst rfl ?_
    refine Y_goto rfl ?_
    exact Y_ret rfl rfl (fun S hS => PA_ret (AC_rf hH hG hP) hn4 S hS)
  · have ht : t < T := by omega
    have ne : nI t ≠ nI T := fun q => e ((nI_eq (by omega) (by omega)).mp q)
    refine Y_iload rfl rfl ?_
    refine Y_iload rfl rfl ?_
    refine Y_icmp_ne_t rfl (ne) ?_
    refine Y_aload_n rfl rfl ?_
    refine Y_iload rfl rfl ?_
    refine Y_iconst rfl ?_
    refine Y_look (lk_t0 hG ht) rfl rfl rfl rfl rfl ?_
    refine Y_ist_15_10 rfl rfl ?_
    refine Y_aload_n rfl rfl ?_
    refine Y_iload rfl rfl ?_
    refine Y_deed (md_drop hH hG ht) rfl rfl rfl rfl rfl (fun w S1 R1 hQ => ?_)
    obtain ⟨rfl, dx⟩ := hQ
    have hg := GR_drop hG ht
    have ac := DX_AC hH hG hP dx hg
    have e2 := dx.2.1
    have hG1 : GR (S1 2) (T - 1) := by rw [e2]; exact hg
    obtain ⟨π1, hπ1⟩ := hG1.2.2.1
    obtain ⟨m1, hm1, -⟩ := ac.2.2.2.1
    have hn1 := DX_n dx
    have hc := n40_tRem (X := S0 2) (b := t) (by omega)
    rw [← tAll_cnt hg.1, ← tAll_cnt hG.1, ← tOf_hsn (by omega) 12 (Nat.le_refl 12)] at hc
    refine Y_iload rfl rfl ?_
    refine Y_iload rfl rfl ?_
    refine Y_icmp_ne_t rfl (ne) ?_
    refine Y_iload rfl rfl ?_
    refine Y_icmp_ne_f rfl (rfl) ?_
    refine Y_aload_n rfl rfl ?_
    refine Y_iconst rfl ?_
    refine Y_look (lk_c0 hG1 hπ1 hm1 hn1) rfl rfl rfl rfl rfl ?_
    refine Y_iload rfl rfl ?_
    refine Y_iload rfl rfl ?_
    refine Y_iload rfl rfl ?_
    refine Y_icmp_ne_t rfl (ne) ?_
    refine Y_iconst rfl ?_
    refine Y_isub rfl ?_
    refine Y_icmp_ne_f rfl ((by rw [show T = T - 1 + 1 by omega, nI_pred]; rfl)) ?_
    refine Y_aload_n rfl rfl ?_
    refine Y_iconst rfl ?_
    refine Y_look (lk_c1 hG1 hπ1 hm1 hn1) rfl rfl rfl rfl rfl ?_
    refine Y_iload rfl rfl ?_
    refine Y_iload rfl rfl ?_
    refine Y_isub rfl ?_
    refine Y_icmp_ne_f rfl ((by rw [e2, ← hc, ← nI_add]; grind)) ?_
    refine Y_iconst rfl ?_
    refine Y_goto rfl ?_
    exact Y_ret rfl rfl (fun S hS => PA_ret ac hn4 S hS)
end ACTS
