/-! the law's acts: a reading -/
section READ
variable {S0 : Sf} {R : Rf} {T n m : Nat} {π : Nat → Int32} {t p h : Nat} {x y d v : Int32} {l10 l11 l12 l13 l14 : Option Value}
theorem enR_0 {row : Nat → Int32} {a : Nat} {x : Int32} (h : rsV row π a p x = 0) : enR row π a p x = upd (upd row (a * 12 + p) x) 97 (row 97 + 1) := if_pos h
theorem enR_1 {row : Nat → Int32} {a : Nat} {x : Int32} (h : ¬ rsV row π a p x = 0) : enR row π a p x = upd row 98 (row 98 + 1) := if_neg h
theorem rd_bad (hH : HI S0 R n) (hG : GR (S0 2) T) (hπ : Pot (S0 2) π) (hP : PD S0 m) {c8 : Int32} (hb : rdOK (S0 2) (nI t) (nI p) v = false) : Y 0 (fun _ => 0) kLaw_acts 24 318 [some (.ref 0), some (.int x), some (.int y), some (.int (nI h)), some (.int (nI T)), some (.int (nI (tAll (S0 2) T))), some (.int (nI t)), some (.int (nI p)), some (.int c8), some (.int (S0 2 98)), some (.int d), some (.int v), some (.int 1), l13, l14] [] S0 R (PA S0 R n) := by
  have hn4 := hH.2.2.1
  refine Y_iload rfl rfl ?_
  refine Y_if_eq_f rfl ((by decide)) ?_
  refine Y_iconst rfl ?_
  refine Y_goto rfl ?_
  refine Y_ist_15_13 rfl rfl ?_
  refine Y_aload_n rfl rfl ?_
  refine Y_iload rfl rfl ?_
  refine Y_iload rfl rfl ?_
  refine Y_iload rfl rfl ?_
  refine Y_look ((md_read0 hG (by rw [hb]; simp)).v (y := -1) (by simp [hb])) rfl rfl rfl rfl rfl ?_
  refine Y_ist_15_14 rfl rfl ?_
  refine Y_iload rfl rfl ?_
  refine Y_iload rfl rfl ?_
  refine Y_if_eq_f rfl ((by decide)) ?_
  refine Y_iconst rfl ?_
  refine Y_goto rfl ?_
  refine Y_icmp_ne_f rfl (rfl) ?_
  refine Y_aload_n rfl rfl ?_
  refine Y_bipush rfl ?_
  refine Y_look (lk_c9 hG hπ hP.1 hH.2.1) rfl rfl rfl rfl rfl ?_
  refine Y_iload rfl rfl ?_
  refine Y_iload rfl rfl ?_
  refine Y_if_le_t rfl ((by decide)) ?_
  refine Y_iconst rfl ?_
  refine Y_iadd rfl ?_
  refine Y_v (Int32.add_zero _) ?_
  refine Y_icmp_ne_f rfl (rfl) ?_
  refine Y_iload rfl rfl ?_
  refine Y_bipush rfl ?_
  refine Y_icmp_lt_t rfl ((by decide)) ?_
  refine Y_iconst rfl ?_
  refine Y_goto rfl ?_
  exact Y_ret rfl rfl (fun S hS => PA_ret (AC_rf hH hG hP) hn4 S hS)
theorem rd_good (hH : HI S0 R n) (hG : GR (S0 2) T) (hπ : Pot (S0 2) π) (hP : PD S0 m) (ht : t < T) (hp : p < 12) (hv : isNb v = true) {c8 : Int32} : Y 0 (fun _ => 0) kLaw_acts 24 318 [some (.ref 0), some (.int x), some (.int y), some (.int (nI h)), some (.int (nI T)), some (.int (nI (tAll (S0 2) T))), some (.int (nI t)), some (.int (nI p)), some (.int c8), some (.int (S0 2 98)), some (.int d), some (.int v), some (.int 0), l13, l14] [] S0 R (PA S0 R n) := by
  have hn4 := hH.2.2.1
  have hT8 := hG.1.2.1
  have h40 := hG.tall
  have ok : rdOK (S0 2) (nI t) (nI p) v = true := by unfold rdOK; rw [tIs_nI hG.1.1 hT8 ht, isPt_nI hp, hv]; rfl
  refine Y_iload rfl rfl ?_
  refine Y_if_eq_t rfl (rfl) ?_
  refine Y_aload_n rfl rfl ?_
  refine Y_iload rfl rfl ?_
  refine Y_iload rfl rfl ?_
  refine Y_iload rfl rfl ?_
  refine Y_look (lk_whyNot hG hπ ht hp hv) rfl rfl rfl rfl rfl ?_
  refine Y_ist_15_13 rfl rfl ?_
  by_cases hA : tAll (S0 2) T < 40
  · have ne40 : ¬ nI (tAll (S0 2) T) = 40 := fun e => by have := (nI_eq (b := 40) (by omega) (by decide)).mp e; omega
    refine Y_aload_n rfl rfl ?_
    refine Y_iload rfl rfl ?_
    refine Y_iload rfl rfl ?_
    refine Y_iload rfl rfl ?_
    refine Y_deed (md_read hH hG hπ ht hp hv hA) rfl rfl rfl rfl rfl (fun w S1 R1 hQ => ?_)
    obtain ⟨rfl, dx⟩ := hQ
    have hn1 := DX_n dx
    by_cases h0 : rsV (S0 2) π t p v = 0
    · rw [enR_0 h0] at dx
      rw [enA, if_pos h0, enR_0 h0, h0]
      have hg := GR_read (v := S0 2 97 + 1) hG hπ ht hp hv hA h0
      have ac := DX_AC hH hG hP dx hg
      have e2 := dx.2.1
      have hG1 : GR (S1 2) T := by rw [e2]; exact hg
      obtain ⟨π1, hπ1⟩ := hG1.2.2.1
      obtain ⟨m1, hm1, -⟩ := ac.2.2.2.1
      have hc := cnt_put (row := S0 2) (j := t * 12 + p) (v := v) (by omega) (rs0 h0).1 (nb_ne hv)
      rw [← cnt_hi (row := upd (S0 2) (t * 12 + p) v) (j := 97) (v := S0 2 97 + 1) (by decide), ← tAll_cnt hg.1, ← tAll_cnt hG.1] at hc
      rw [hc]
      have e11 : (10 : Int32) + nI (tAll (S0 2) T + 1) = nI (11 + tAll (S0 2) T) := by
        rw [show (10 : Int32) + nI (tAll (S0 2) T + 1) = nI (10 + (tAll (S0 2) T + 1)) from nI_add 10 _]
        exact congrArg nI (by omega)
      rw [e11]
      refine Y_ist_15_14 rfl rfl ?_
      refine Y_iload rfl rfl ?_
      refine Y_iload rfl rfl ?_
      refine Y_if_eq_t rfl (rfl) ?_
      refine Y_iload rfl rfl ?_
      refine Y_bipush rfl ?_
      refine Y_icmp_ne_t rfl (ne40) ?_
      refine Y_iload rfl rfl ?_
      refine Y_if_le_t rfl ((by decide)) ?_
      refine Y_bipush rfl ?_
      refine Y_iload rfl rfl ?_
      refine Y_iadd rfl ?_
      refine Y_icmp_ne_f rfl ((nI_add 11 _).symm) ?_
      refine Y_aload_n rfl rfl ?_
      refine Y_bipush rfl ?_
      refine Y_look (lk_c9 hG1 hπ1 hm1 hn1) rfl rfl rfl rfl rfl ?_
      refine Y_iload rfl rfl ?_
      refine Y_iload rfl rfl ?_
      refine Y_if_le_f rfl (nI_nle (by omega) (by omega)) ?_
      refine Y_iload rfl rfl ?_
      refine Y_bipush rfl ?_
      refine Y_icmp_ge_t rfl (nI_le (a := 10) (by omega) (by omega)) ?_
      refine Y_iconst rfl ?_
      refine Y_iadd rfl ?_
      refine Y_v (Int32.add_zero _) ?_
      refine Y_icmp_ne_f rfl ((by rw [e2, upd_ne (by decide), upd_ne (by omega)])) ?_
      refine Y_iload rfl rfl ?_
      refine Y_bipush rfl ?_
      refine Y_icmp_lt_f rfl (nI_nlt (b := 10) (by omega) (by omega)) ?_
      refine Y_aload_n rfl rfl ?_
      refine Y_iload rfl rfl ?_
      refine Y_iload rfl rfl ?_
      refine Y_look (lk_reading hG1 ht hp) rfl rfl rfl rfl rfl ?_
      refine Y_ldc rfl ?_
      refine Y_iload rfl rfl ?_
      refine Y_iadd rfl ?_
      refine Y_icmp_ne_f rfl ((by rw [e2, rv_t (by rw [hs_cg (upd_ne (by omega)), hs_up2, if_pos rfl, decide_eq_false (nb_ne hv)]; rfl), upd_ne (by omega), upd_same])) ?_
      refine Y_aload_n rfl rfl ?_
      refine Y_iconst rfl ?_
      refine Y_look (lk_c1 hG1 hπ1 hm1 hn1) rfl rfl rfl rfl rfl ?_
      refine Y_iload rfl rfl ?_
      refine Y_iconst rfl ?_
      refine Y_iadd rfl ?_
      refine Y_icmp_ne_f rfl ((by rw [e2, hc, nI_succ])) ?_
      refine Y_iconst rfl ?_
      refine Y_goto rfl ?_
      exact Y_ret rfl rfl (fun S hS => PA_ret ac hn4 S hS)
    · rw [enR_1 h0] at dx
      rw [enA, if_neg h0]
      have hg : GR (upd (S0 2) 98 (S0 2 98 + 1)) T := GR_u hG (by decide)
      have ac := DX_AC hH hG hP dx hg
      have e2 := dx.2.1
      have hG1 : GR (S1 2) T := by rw [e2]; exact hg
      obtain ⟨π1, hπ1⟩ := hG1.2.2.1
      obtain ⟨m1, hm1, -⟩ := ac.2.2.2.1
      have h12 : rsV (S0 2) π t p v = 1 ∨ rsV (S0 2) π t p v = 2 := by
        rcases rsV_cases (row := S0 2) (π := π) (a := t) (p := p) (x := v) with e | e | e
        · exact absurd e h0
        · exact Or.inl e
        · exact Or.inr e
      generalize rsV (S0 2) π t p v = r at *
      have r1 : ¬ r ≤ 0 := by rcases h12 with e | e <;> rw [e] <;> decide
      have r2 : ¬ (10 : Int32) ≤ r := by rcases h12 with e | e <;> rw [e] <;> decide
      have r3 : r < 10 := by rcases h12 with e | e <;> rw [e] <;> decide
      refine Y_ist_15_14 rfl rfl ?_
      refine Y_iload rfl rfl ?_
      refine Y_iload rfl rfl ?_
      refine Y_if_eq_t rfl (rfl) ?_
      refine Y_iload rfl rfl ?_
      refine Y_bipush rfl ?_
      refine Y_icmp_ne_t rfl (ne40) ?_
      refine Y_iload rfl rfl ?_
      refine Y_if_le_f rfl (r1) ?_
      refine Y_iload rfl rfl ?_
      refine Y_goto rfl ?_
      refine Y_icmp_ne_f rfl (rfl) ?_
      refine Y_aload_n rfl rfl ?_
      refine Y_bipush rfl ?_
      refine Y_look (lk_c9 hG1 hπ1 hm1 hn1) rfl rfl rfl rfl rfl ?_
      refine Y_iload rfl rfl ?_
      refine Y_iload rfl rfl ?_
      refine Y_if_le_f rfl (r1) ?_
      refine Y_iload rfl rfl ?_
      refine Y_bipush rfl ?_
      refine Y_icmp_ge_f rfl (r2) ?_
      refine Y_iconst rfl ?_
      refine Y_goto rfl ?_
      refine Y_iadd rfl ?_
      refine Y_icmp_ne_f rfl ((by rw [e2, upd_same])) ?_
      refine Y_iload rfl rfl ?_
      refine Y_bipush rfl ?_
      refine Y_icmp_lt_t rfl (r3) ?_
      refine Y_iconst rfl ?_
      refine Y_goto rfl ?_
      exact Y_ret rfl rfl (fun S hS => PA_ret ac hn4 S hS)
  · have e40 : tAll (S0 2) T = 40 := by omega
    refine Y_aload_n rfl rfl ?_
    refine Y_iload rfl rfl ?_
    refine Y_iload rfl rfl ?_
    refine Y_iload rfl rfl ?_
    refine Y_look ((md_read0 hG (fun q => hA q.2)).v (if_pos ok)) rfl rfl rfl rfl rfl ?_
    refine Y_ist_15_14 rfl rfl ?_
    refine Y_iload rfl rfl ?_
    refine Y_iload rfl rfl ?_
    refine Y_if_eq_t rfl (rfl) ?_
    refine Y_iload rfl rfl ?_
    refine Y_bipush rfl ?_
    refine Y_icmp_ne_f rfl ((by rw [e40]; rfl)) ?_
    refine Y_bipush rfl ?_
    refine Y_goto rfl ?_
    refine Y_icmp_ne_f rfl (rfl) ?_
    refine Y_aload_n rfl rfl ?_
    refine Y_bipush rfl ?_
    refine Y_look (lk_c9 hG hπ hP.1 hH.2.1) rfl rfl rfl rfl rfl ?_
    refine Y_iload rfl rfl ?_
    refine Y_iload rfl rfl ?_
    refine Y_if_le_t rfl ((by decide)) ?_
    refine Y_iconst rfl ?_
    refine Y_iadd rfl ?_
    refine Y_v (Int32.add_zero _) ?_
    refine Y_icmp_ne_f rfl (rfl) ?_
    refine Y_iload rfl rfl ?_
    refine Y_bipush rfl ?_
    refine Y_icmp_lt_t rfl ((by decide)) ?_
    refine Y_iconst rfl ?_
    refine Y_goto rfl ?_
    exact Y_ret rfl rfl (fun S hS => PA_ret (AC_rf hH hG hP) hn4 S hS)
theorem rd_288 (hH : HI S0 R n) (hG : GR (S0 2) T) (hπ : Pot (S0 2) π) (hP : PD S0 m) (ht : t ≤ T) (hp : p ≤ 12) (v : Int32) : Y 0 (fun _ => 0) kLaw_acts 24 288 [some (.ref 0), some (.int x), some (.int y), some (.int (nI h)), some (.int (nI T)), some (.int (nI (tAll (S0 2) T))), some (.int (nI t)), some (.int (nI p)), some (.int (b2i (decide (t = T) || decide (p = 12)))), some (.int (S0 2 98)), some (.int d), l11, l12, l13, l14] [.int v] S0 R (PA S0 R n) := by
  have hT8 := hG.1.2.1
  by_cases hno : t = T ∨ p = 12
  · have eb : (decide (t = T) || decide (p = 12)) = true := by
      rcases hno with e | e
      · rw [decide_eq_true e, Bool.true_or]
      · rw [decide_eq_true e, Bool.or_true]
    have ebad : (tIs (S0 2) (nI t) && isPt (nI p)) = false := by
      rcases hno with e | e
      · rw [e, tIs_T hG.1, Bool.false_and]
      · rw [e]; rw [Bool.and_eq_false_iff]; right; decide
    rw [eb]
    refine Y_ist_15_11 rfl rfl ?_
    refine Y_iload rfl rfl ?_
    refine Y_if_ne_t rfl ((by decide)) ?_
    refine Y_iconst rfl ?_
    refine Y_goto rfl ?_
    refine Y_ist_15_12 rfl rfl ?_
    exact rd_bad hH hG hπ hP (by unfold rdOK; rw [← Bool.and_assoc, ebad, Bool.false_and])
  · have ht : t < T := by omega
    have hp : p < 12 := by omega
    rw [show (decide (t = T) || decide (p = 12)) = false by rw [decide_eq_false (show ¬ t = T by omega), decide_eq_false (show ¬ p = 12 by omega)]; rfl]
    refine Y_ist_15_11 rfl rfl ?_
    refine Y_iload rfl rfl ?_
    refine Y_if_ne_f rfl (rfl) ?_
    by_cases h1 : v < -999
    · refine Y_iload rfl rfl ?_
      refine Y_sipush rfl ?_
      refine Y_icmp_lt_t rfl (h1) ?_
      refine Y_iconst rfl ?_
      refine Y_goto rfl ?_
      refine Y_ist_15_12 rfl rfl ?_
      exact rd_bad hH hG hπ hP (by unfold rdOK isNb; rw [decide_eq_false (fun q => q h1), Bool.false_and, Bool.and_false, Bool.and_false])
    · refine Y_iload rfl rfl ?_
      refine Y_sipush rfl ?_
      refine Y_icmp_lt_f rfl (h1) ?_
      by_cases h2 : 999 < v
      · refine Y_iload rfl rfl ?_
        refine Y_sipush rfl ?_
        refine Y_icmp_le_f rfl ((Int32.not_le.mpr h2)) ?_
        refine Y_iconst rfl ?_
        refine Y_goto rfl ?_
        refine Y_ist_15_12 rfl rfl ?_
        exact rd_bad hH hG hπ hP (by unfold rdOK isNb; rw [decide_eq_false (p := ¬ 999 < v) (fun q => q h2), Bool.and_false, Bool.and_false, Bool.and_false])
      · refine Y_iload rfl rfl ?_
        refine Y_sipush rfl ?_
        refine Y_icmp_le_t rfl ((Int32.not_lt.mp h2)) ?_
        refine Y_iconst rfl ?_
        refine Y_ist_15_12 rfl rfl ?_
        exact rd_good hH hG hπ hP ht hp (by unfold isNb; rw [decide_eq_true h1, decide_eq_true h2]; rfl)
theorem at_read (hH : HI S0 R n) (hG : GR (S0 2) T) (hπ : Pot (S0 2) π) (hP : PD S0 m) (ht : t ≤ T) (hp : p ≤ 12) (h16 : h < 16) : Y 0 (fun _ => 0) kLaw_acts 24 181 [some (.ref 0), some (.int x), some (.int y), some (.int (nI h)), some (.int (nI T)), some (.int (nI (tAll (S0 2) T))), some (.int (nI t)), some (.int (nI p)), some (.int (b2i (decide (t = T) || decide (p = 12)))), some (.int (S0 2 98)), l10, l11, l12, l13, l14] [] S0 R (PA S0 R n) := by
  have hT8 := hG.1.2.1
  have fin : ∀ d v : Int32, Y 0 (fun _ => 0) kLaw_acts 24 288 [some (.ref 0), some (.int x), some (.int y), some (.int (nI h)), some (.int (nI T)), some (.int (nI (tAll (S0 2) T))), some (.int (nI t)), some (.int (nI p)), some (.int (b2i (decide (t = T) || decide (p = 12)))), some (.int (S0 2 98)), some (.int d), l11, l12, l13, l14] [.int v] S0 R (PA S0 R n) := fun d v => rd_288 hH hG hπ hP ht hp v
  have K : ∀ d : Int32, Y 0 (fun _ => 0) kLaw_acts 24 240 [some (.ref 0), some (.int x), some (.int y), some (.int (nI h)), some (.int (nI T)), some (.int (nI (tAll (S0 2) T))), some (.int (nI t)), some (.int (nI p)), some (.int (b2i (decide (t = T) || decide (p = 12)))), some (.int (S0 2 98)), some (.int d), l11, l12, l13, l14] [] S0 R (PA S0 R n) := fun d => by
    refine Y_iload_n rfl rfl ?_
    refine Y_bipush rfl ?_
    refine Y_ishr rfl ?_
    refine Y_iload_n rfl rfl ?_
    refine Y_bipush rfl ?_
    refine Y_ishr rfl ?_
    refine Y_bipush rfl ?_
    refine Y_lookS (lk_low (N := 7) (by decide) (by decide) _) rfl rfl rfl rfl ?_
    by_cases h0 : nI (lw (y >>> (17 &&& 31)) 7) = 0
    · refine Y_if_ne_f rfl (h0) ?_
      refine Y_sipush rfl ?_
      refine Y_goto rfl ?_
      refine Y_lookS (lk_low (N := 2003) (by decide) (by decide) _) rfl rfl rfl rfl ?_
      refine Y_iload_n rfl rfl ?_
      refine Y_bipush rfl ?_
      refine Y_ishr rfl ?_
      refine Y_bipush rfl ?_
      refine Y_lookS (lk_low (N := 7) (by decide) (by decide) _) rfl rfl rfl rfl ?_
      refine Y_if_ne_f rfl (h0) ?_
      refine Y_sipush rfl ?_
      refine Y_goto rfl ?_
      refine Y_isub rfl ?_
      exact fin _ _
    · refine Y_if_ne_t rfl (h0) ?_
      refine Y_bipush rfl ?_
      refine Y_lookS (lk_low (N := 80) (by decide) (by decide) _) rfl rfl rfl rfl ?_
      refine Y_iload_n rfl rfl ?_
      refine Y_bipush rfl ?_
      refine Y_ishr rfl ?_
      refine Y_bipush rfl ?_
      refine Y_lookS (lk_low (N := 7) (by decide) (by decide) _) rfl rfl rfl rfl ?_
      refine Y_if_ne_t rfl (h0) ?_
      refine Y_bipush rfl ?_
      refine Y_isub rfl ?_
      exact fin _ _
  refine Y_iload_n rfl rfl ?_
  refine Y_bipush rfl ?_
  refine Y_icmp_ge_f rfl (nI_ge (b := 16) h16 (by decide)) ?_
  by_cases hno : t = T ∨ p = 12
  · have eb : (decide (t = T) || decide (p = 12)) = true := by
      rcases hno with e | e
      · rw [decide_eq_true e, Bool.true_or]
      · rw [decide_eq_true e, Bool.or_true]
    rw [eb] at K ⊢
    refine Y_iload rfl rfl ?_
    refine Y_if_eq_f rfl ((by decide)) ?_
    refine Y_bipush rfl ?_
    refine Y_goto rfl ?_
    refine Y_ist_15_10 rfl rfl ?_
    refine Y_iload rfl rfl ?_
    refine Y_ldc rfl ?_
    refine Y_icmp_le_t rfl ((by decide)) ?_
    exact K (-4)
  · have ht : t < T := by omega
    have hp : p < 12 := by omega
    have eb : (decide (t = T) || decide (p = 12)) = false := by rw [decide_eq_false (show ¬ t = T by omega), decide_eq_false (show ¬ p = 12 by omega)]; rfl
    rw [eb] at K fin ⊢
    refine Y_iload rfl rfl ?_
    refine Y_if_eq_t rfl (rfl) ?_
    refine Y_aload_n rfl rfl ?_
    refine Y_iload rfl rfl ?_
    refine Y_iload rfl rfl ?_
    refine Y_look (lk_follows hG hπ ht hp) rfl rfl rfl rfl rfl ?_
    by_cases h1 : fV (S0 2) π (12 + t) p ≤ 99000
    · refine Y_ist_15_10 rfl rfl ?_
      refine Y_iload rfl rfl ?_
      refine Y_ldc rfl ?_
      refine Y_icmp_le_t rfl (h1) ?_
      exact K _
    · refine Y_ist_15_10 rfl rfl ?_
      refine Y_iload rfl rfl ?_
      refine Y_ldc rfl ?_
      refine Y_icmp_le_f rfl (h1) ?_
      by_cases h2 : (101000 : Int32) ≤ fV (S0 2) π (12 + t) p
      · refine Y_iload rfl rfl ?_
        refine Y_ldc rfl ?_
        refine Y_icmp_ge_t rfl (h2) ?_
        exact K _
      · refine Y_iload rfl rfl ?_
        refine Y_ldc rfl ?_
        refine Y_icmp_ge_f rfl (h2) ?_
        refine Y_iload_n rfl rfl ?_
        refine Y_bipush rfl ?_
        refine Y_ishr rfl ?_
        refine Y_iconst rfl ?_
        refine Y_lookS (lk_low (N := 3) (by decide) (by decide) _) rfl rfl rfl rfl ?_
        by_cases h3 : nI (lw (y >>> (7 &&& 31)) 3) ≤ 0
        · refine Y_if_le_t rfl (h3) ?_
          exact K _
        · refine Y_if_le_f rfl (h3) ?_
          refine Y_iload rfl rfl ?_
          refine Y_ldc rfl ?_
          refine Y_isub rfl ?_
          refine Y_goto rfl ?_
          exact fin _ _
end READ
