/-! holds: the points' loop, the end, the whole -/
section HOLDS4
variable {S0 : Sf} {R : Rf} {T n m : Nat} {π : Nat → Int32} {t p q : Nat} {P : Po} {c2 c3 c4 c5 c6 c7 c10 : Int32} {l10 l11 l12 l13 l14 l15 l16 : Option Value}
theorem hq_is (hG : GR (S0 2) T) (hπ : Pot (S0 2) π) (hp : p < 12) (kk : ∀ l10 l11 l12 l13 l14 l15 l16, Y 0 (fun _ => 0) kLaw_holds 24 493 [some (.ref 0), some (.int (nI T)), some (.int c2), some (.int c3), some (.int (nI (tBare (S0 2) T (p + 1)))), some (.int (pM (S0 2) π (p + 1))), some (.int (nI (kE (S0 2) (p + 1)))), some (.int (nI (cnt (lowB (S0 2)) (p + 1)))), some (.int 1), some (.int (nI (p + 1))), l10, l11, l12, l13, l14, l15, l16] [] S0 R P) : Y 0 (fun _ => 0) kLaw_holds 24 819 [some (.ref 0), some (.int (nI T)), some (.int c2), some (.int c3), some (.int (nI (tBare (S0 2) T (p + 1)))), some (.int (pM (S0 2) π (p + 1))), some (.int (nI (kE (S0 2) (p + 1)))), some (.int (nI (cnt (lowB (S0 2)) (p + 1)))), some (.int 1), some (.int (nI p)), some (.int (nI (tAtP (S0 2) (nI p) T))), some (.int (nI (pA (S0 2) π p 12))), some (.int (nI (pW (S0 2) p 0 12))), some (.int (-(pF (S0 2) π p 12))), some (.int (b2i (loB (S0 2) p 12))), some (.int (nI 12)), l16] [] S0 R P := by
  refine Y_iload rfl rfl ?_
  refine Y_if_eq_f rfl ((by decide)) ?_
  refine Y_aload_n rfl rfl ?_
  refine Y_iload rfl rfl ?_
  refine Y_iconst rfl ?_
  refine Y_look (lk_p0 hG hπ hp) rfl rfl rfl rfl rfl ?_
  refine Y_iload rfl rfl ?_
  refine Y_icmp_ne_f rfl (rfl) ?_
  refine Y_aload_n rfl rfl ?_
  refine Y_iload rfl rfl ?_
  refine Y_iconst rfl ?_
  refine Y_look (lk_p1 hG hπ hp) rfl rfl rfl rfl rfl ?_
  refine Y_iload rfl rfl ?_
  refine Y_icmp_ne_f rfl (rfl) ?_
  refine Y_aload_n rfl rfl ?_
  refine Y_iload rfl rfl ?_
  refine Y_iconst rfl ?_
  refine Y_look (lk_p2 hG hπ hp) rfl rfl rfl rfl rfl ?_
  refine Y_iload rfl rfl ?_
  refine Y_icmp_ne_f rfl (rfl) ?_
  refine Y_aload_n rfl rfl ?_
  refine Y_iload rfl rfl ?_
  refine Y_iconst rfl ?_
  refine Y_look (lk_p3 hG hπ hp) rfl rfl rfl rfl rfl ?_
  refine Y_iload rfl rfl ?_
  refine Y_ineg rfl ?_
  refine Y_icmp_ne_f rfl ((Int32.neg_neg).symm) ?_
  refine Y_iconst rfl ?_
  refine Y_goto rfl ?_
  refine Y_ist_17_8 rfl rfl ?_
  refine Y_inc_17_9 rfl rfl ?_
  refine Y_goto rfl ?_
  have := kk (some (.int (nI (tAtP (S0 2) (nI p) T)))) (some (.int (nI (pA (S0 2) π p 12)))) (some (.int (nI (pW (S0 2) p 0 12)))) (some (.int (-(pF (S0 2) π p 12)))) (some (.int (b2i (loB (S0 2) p 12)))) (some (.int (nI 12))) l16
  rw [nI_succ p] at this
  exact this
theorem hq_most (hG : GR (S0 2) T) (hπ : Pot (S0 2) π) (hp : p < 12) (kk : Y 0 (fun _ => 0) kLaw_holds 24 819 [some (.ref 0), some (.int (nI T)), some (.int c2), some (.int c3), some (.int c4), some (.int (pM (S0 2) π (p + 1))), some (.int c6), some (.int c7), some (.int 1), some (.int (nI p)), some (.int (nI (tAtP (S0 2) (nI p) T))), some (.int (nI (pA (S0 2) π p 12))), some (.int (nI (pW (S0 2) p 0 12))), some (.int (-(pF (S0 2) π p 12))), some (.int (b2i (loB (S0 2) p 12))), some (.int (nI 12)), l16] [] S0 R P) : Y 0 (fun _ => 0) kLaw_holds 24 801 [some (.ref 0), some (.int (nI T)), some (.int c2), some (.int c3), some (.int c4), some (.int (pM (S0 2) π p)), some (.int c6), some (.int c7), some (.int 1), some (.int (nI p)), some (.int (nI (tAtP (S0 2) (nI p) T))), some (.int (nI (pA (S0 2) π p 12))), some (.int (nI (pW (S0 2) p 0 12))), some (.int (-(pF (S0 2) π p 12))), some (.int (b2i (loB (S0 2) p 12))), some (.int (nI 12)), l16] [] S0 R P := by
  rw [pM] at kk
  by_cases h : pM (S0 2) π p < pF (S0 2) π p 12
  · rw [if_pos h] at kk
    refine Y_iload rfl rfl ?_
    refine Y_ineg rfl ?_
    refine Y_iload rfl rfl ?_
    refine Y_icmp_le_f rfl ((by rw [Int32.neg_neg]; exact Int32.not_le.mpr h)) ?_
    refine Y_iload rfl rfl ?_
    refine Y_ineg rfl ?_
    refine Y_v (Int32.neg_neg) ?_
    refine Y_goto rfl ?_
    refine Y_ist_17_5 rfl rfl ?_
    exact kk
  · rw [if_neg h] at kk
    refine Y_iload rfl rfl ?_
    refine Y_ineg rfl ?_
    refine Y_iload rfl rfl ?_
    refine Y_icmp_le_t rfl ((by rw [Int32.neg_neg]; exact Int32.not_lt.mp h)) ?_
    refine Y_iload rfl rfl ?_
    refine Y_ist_17_5 rfl rfl ?_
    exact kk
theorem hq_low (hp : p < 12) (kk : Y 0 (fun _ => 0) kLaw_holds 24 801 [some (.ref 0), some (.int (nI T)), some (.int c2), some (.int c3), some (.int c4), some (.int c5), some (.int c6), some (.int (nI (cnt (lowB (S0 2)) (p + 1)))), some (.int 1), some (.int (nI p)), some (.int (nI (tAtP (S0 2) (nI p) T))), some (.int (nI (pA (S0 2) π p 12))), some (.int (nI (pW (S0 2) p 0 12))), some (.int (-(pF (S0 2) π p 12))), some (.int (b2i (loB (S0 2) p 12))), some (.int (nI 12)), l16] [] S0 R P) : Y 0 (fun _ => 0) kLaw_holds 24 786 [some (.ref 0), some (.int (nI T)), some (.int c2), some (.int c3), some (.int c4), some (.int c5), some (.int c6), some (.int (nI (cnt (lowB (S0 2)) p))), some (.int 1), some (.int (nI p)), some (.int (nI (tAtP (S0 2) (nI p) T))), some (.int (nI (pA (S0 2) π p 12))), some (.int (nI (pW (S0 2) p 0 12))), some (.int (-(pF (S0 2) π p 12))), some (.int (b2i (loB (S0 2) p 12))), some (.int (nI 12)), l16] [] S0 R P := by
  have e : loB (S0 2) p 12 = lowB (S0 2) p := by unfold loB lowB; rw [Nat.min_eq_right (by omega)]
  rw [e] at kk ⊢
  cases h : lowB (S0 2) p with
  | false =>
    rw [h] at kk
    rw [cnt_f h] at kk
    refine Y_iload rfl rfl ?_
    refine Y_iload rfl rfl ?_
    refine Y_if_eq_t rfl (rfl) ?_
    refine Y_iconst rfl ?_
    refine Y_iadd rfl ?_
    refine Y_v (Int32.add_zero _) ?_
    refine Y_ist_17_7 rfl rfl ?_
    exact kk
  | true =>
    rw [h] at kk
    rw [cnt_t h, nI_succ] at kk
    refine Y_iload rfl rfl ?_
    refine Y_iload rfl rfl ?_
    refine Y_if_eq_f rfl ((by decide)) ?_
    refine Y_iconst rfl ?_
    refine Y_goto rfl ?_
    refine Y_iadd rfl ?_
    refine Y_ist_17_7 rfl rfl ?_
    exact kk
theorem hq_with (hp : p < 12) (kk : Y 0 (fun _ => 0) kLaw_holds 24 786 [some (.ref 0), some (.int (nI T)), some (.int c2), some (.int c3), some (.int c4), some (.int c5), some (.int (nI (kE (S0 2) (p + 1)))), some (.int c7), some (.int 1), some (.int (nI p)), some (.int (nI (tAtP (S0 2) (nI p) T))), some (.int (nI (pA (S0 2) π p 12))), some (.int (nI (pW (S0 2) p 0 12))), some (.int (-(pF (S0 2) π p 12))), some (.int (b2i (loB (S0 2) p 12))), some (.int (nI 12)), l16] [] S0 R P) : Y 0 (fun _ => 0) kLaw_holds 24 777 [some (.ref 0), some (.int (nI T)), some (.int c2), some (.int c3), some (.int c4), some (.int c5), some (.int (nI (kE (S0 2) p))), some (.int c7), some (.int 1), some (.int (nI p)), some (.int (nI (tAtP (S0 2) (nI p) T))), some (.int (nI (pA (S0 2) π p 12))), some (.int (nI (pW (S0 2) p 0 12))), some (.int (-(pF (S0 2) π p 12))), some (.int (b2i (loB (S0 2) p 12))), some (.int (nI 12)), l16] [] S0 R P := by
  have h1 := pW_self (row := S0 2) hp
  refine Y_iload rfl rfl ?_
  refine Y_iload rfl rfl ?_
  refine Y_iconst rfl ?_
  refine Y_isub rfl ?_
  refine Y_iadd rfl ?_
  refine Y_v (y := nI (kE (S0 2) (p + 1))) ?_ ?_
  · rw [kE, ← nI_add, show pW (S0 2) p 0 12 = pW (S0 2) p 0 12 - 1 + 1 by omega, nI_pred, Nat.add_sub_cancel]
  · refine Y_ist_17_6 rfl rfl ?_
    exact kk
theorem hq_bare (hp : p < 12) (h8 : T ≤ 8) (kk : Y 0 (fun _ => 0) kLaw_holds 24 777 [some (.ref 0), some (.int (nI T)), some (.int c2), some (.int c3), some (.int (nI (tBare (S0 2) T (p + 1)))), some (.int c5), some (.int c6), some (.int c7), some (.int 1), some (.int (nI p)), some (.int (nI (tAtP (S0 2) (nI p) T))), some (.int (nI (pA (S0 2) π p 12))), some (.int (nI (pW (S0 2) p 0 12))), some (.int (-(pF (S0 2) π p 12))), some (.int (b2i (loB (S0 2) p 12))), some (.int (nI 12)), l16] [] S0 R P) : Y 0 (fun _ => 0) kLaw_holds 24 762 [some (.ref 0), some (.int (nI T)), some (.int c2), some (.int c3), some (.int (nI (tBare (S0 2) T p))), some (.int c5), some (.int c6), some (.int c7), some (.int 1), some (.int (nI p)), some (.int (nI (tAtP (S0 2) (nI p) T))), some (.int (nI (pA (S0 2) π p 12))), some (.int (nI (pW (S0 2) p 0 12))), some (.int (-(pF (S0 2) π p 12))), some (.int (b2i (loB (S0 2) p 12))), some (.int (nI 12)), l16] [] S0 R P := by
  have hle : tAtP (S0 2) (nI p) T ≤ T := cnt_le _ _
  by_cases h : tAtP (S0 2) (nI p) T = 0
  · rw [show tBare (S0 2) T (p + 1) = tBare (S0 2) T p + 1 from cnt_t (decide_eq_true h), nI_succ] at kk
    rw [h] at kk ⊢
    refine Y_iload rfl rfl ?_
    refine Y_iload rfl rfl ?_
    refine Y_if_ne_f rfl (rfl) ?_
    refine Y_iconst rfl ?_
    refine Y_goto rfl ?_
    refine Y_iadd rfl ?_
    refine Y_ist_17_4 rfl rfl ?_
    exact kk
  · rw [show tBare (S0 2) T (p + 1) = tBare (S0 2) T p from cnt_f (decide_eq_false h)] at kk
    refine Y_iload rfl rfl ?_
    refine Y_iload rfl rfl ?_
    refine Y_if_ne_t rfl (nI_ne0 (by omega) (by omega)) ?_
    refine Y_iconst rfl ?_
    refine Y_iadd rfl ?_
    refine Y_v (Int32.add_zero _) ?_
    refine Y_ist_17_4 rfl rfl ?_
    exact kk
theorem hq_at (hG : GR (S0 2) T) (hp : p < 12) (kk : Y 0 (fun _ => 0) kLaw_holds 24 558 [some (.ref 0), some (.int (nI T)), some (.int c2), some (.int c3), some (.int c4), some (.int c5), some (.int c6), some (.int c7), some (.int 1), some (.int (nI p)), some (.int (nI (tAtP (S0 2) (nI p) T))), some (.int 0), some (.int 0), some (.int 0), some (.int 1), some (.int (nI T)), l16] [] S0 R P) : Y 0 (fun _ => 0) kLaw_holds 24 523 [some (.ref 0), some (.int (nI T)), some (.int c2), some (.int c3), some (.int c4), some (.int c5), some (.int c6), some (.int c7), some (.int 1), some (.int (nI p)), some (.int 0), some (.int 0), some (.int 0), some (.int 0), some (.int 1), some (.int 0), l16] [] S0 R P := by
  have h8 := hG.1.2.1
  refine down T (fun i => Y 0 (fun _ => 0) kLaw_holds 24 523 [some (.ref 0), some (.int (nI T)), some (.int c2), some (.int c3), some (.int c4), some (.int c5), some (.int c6), some (.int c7), some (.int 1), some (.int (nI p)), some (.int (nI (tAtP (S0 2) (nI p) i))), some (.int 0), some (.int 0), some (.int 0), some (.int 1), some (.int (nI i)), l16] [] S0 R P) ?_ (fun i hi ih => ?_)
  · refine Y_iload rfl rfl ?_
    refine Y_iload_n rfl rfl ?_
    refine Y_icmp_ge_t rfl (Int32.le_refl _) ?_
    exact kk
  · refine Y_iload rfl rfl ?_
    refine Y_iload_n rfl rfl ?_
    refine Y_icmp_ge_f rfl (nI_ge hi (by omega)) ?_
    refine Y_iload rfl rfl ?_
    refine Y_aload_n rfl rfl ?_
    refine Y_iload rfl rfl ?_
    refine Y_iload rfl rfl ?_
    refine Y_look (lk_reading hG hi hp) rfl rfl rfl rfl rfl ?_
    have e : tHas (S0 2) (nI i) (nI p) = hs (S0 2) (i * 12 + p) := tHas_nI (by omega) hp
    rw [nI_succ i] at ih
    cases hh : hs (S0 2) (i * 12 + p) with
    | true =>
      rw [show tAtP (S0 2) (nI p) (i + 1) = tAtP (S0 2) (nI p) i + 1 from cnt_t (e.trans hh), nI_succ] at ih
      refine Y_bipush rfl ?_
      refine Y_icmp_ne_t rfl (rv_ne hG.2.1 (by omega) hh) ?_
      refine Y_iconst rfl ?_
      refine Y_iadd rfl ?_
      refine Y_ist_17_10 rfl rfl ?_
      refine Y_inc_17_15 rfl rfl ?_
      refine Y_goto rfl ?_
      exact ih
    | false =>
      rw [show tAtP (S0 2) (nI p) (i + 1) = tAtP (S0 2) (nI p) i from cnt_f (e.trans hh)] at ih
      refine Y_bipush rfl ?_
      refine Y_icmp_ne_f rfl (rv_f hh) ?_
      refine Y_iconst rfl ?_
      refine Y_goto rfl ?_
      refine Y_iadd rfl ?_
      refine Y_v (Int32.add_zero _) ?_
      refine Y_ist_17_10 rfl rfl ?_
      refine Y_inc_17_15 rfl rfl ?_
      refine Y_goto rfl ?_
      exact ih
theorem hq_point (hG : GR (S0 2) T) (hπ : Pot (S0 2) π) (hp : p < 12) (kk : ∀ l10 l11 l12 l13 l14 l15 l16, Y 0 (fun _ => 0) kLaw_holds 24 493 [some (.ref 0), some (.int (nI T)), some (.int c2), some (.int c3), some (.int (nI (tBare (S0 2) T (p + 1)))), some (.int (pM (S0 2) π (p + 1))), some (.int (nI (kE (S0 2) (p + 1)))), some (.int (nI (cnt (lowB (S0 2)) (p + 1)))), some (.int 1), some (.int (nI (p + 1))), l10, l11, l12, l13, l14, l15, l16] [] S0 R P) : Y 0 (fun _ => 0) kLaw_holds 24 493 [some (.ref 0), some (.int (nI T)), some (.int c2), some (.int c3), some (.int (nI (tBare (S0 2) T p))), some (.int (pM (S0 2) π p)), some (.int (nI (kE (S0 2) p))), some (.int (nI (cnt (lowB (S0 2)) p))), some (.int 1), some (.int (nI p)), l10, l11, l12, l13, l14, l15, l16] [] S0 R P := by
  have h8 := hG.1.2.1
  refine Y_iload rfl rfl ?_
  refine Y_bipush rfl ?_
  refine Y_icmp_ge_f rfl (nI_ge hp (by decide)) ?_
  refine Y_iload rfl rfl ?_
  refine Y_if_eq_f rfl ((by decide)) ?_
  refine Y_iconst rfl ?_
  refine Y_ist_17_10 rfl rfl ?_
  refine Y_iconst rfl ?_
  refine Y_ist_17_11 rfl rfl ?_
  refine Y_iconst rfl ?_
  refine Y_ist_17_12 rfl rfl ?_
  refine Y_iconst rfl ?_
  refine Y_ist_17_13 rfl rfl ?_
  refine Y_iconst rfl ?_
  refine Y_ist_17_14 rfl rfl ?_
  refine Y_iconst rfl ?_
  refine Y_ist_17_15 rfl rfl ?_
  refine hq_at hG hp ?_
  refine Y_iconst rfl ?_
  refine Y_ist_17_15 rfl rfl ?_
  suffices st : ∀ l16, Y 0 (fun _ => 0) kLaw_holds 24 561 [some (.ref 0), some (.int (nI T)), some (.int c2), some (.int c3), some (.int (nI (tBare (S0 2) T p))), some (.int (pM (S0 2) π p)), some (.int (nI (kE (S0 2) p))), some (.int (nI (cnt (lowB (S0 2)) p))), some (.int 1), some (.int (nI p)), some (.int (nI (tAtP (S0 2) (nI p) T))), some (.int (nI (pA (S0 2) π p 0))), some (.int (nI (pW (S0 2) p 0 0))), some (.int (-(pF (S0 2) π p 0))), some (.int (b2i (loB (S0 2) p 0))), some (.int (nI 0)), l16] [] S0 R P from by
    have := st l16
    rw [show loB (S0 2) p 0 = true from by unfold loB; rw [Nat.zero_min]; rfl, show -(pF (S0 2) π p 0) = 0 from (by decide : -(0 : Int32) = 0)] at this
    exact this
  refine down 12 (fun q => ∀ l16, Y 0 (fun _ => 0) kLaw_holds 24 561 [some (.ref 0), some (.int (nI T)), some (.int c2), some (.int c3), some (.int (nI (tBare (S0 2) T p))), some (.int (pM (S0 2) π p)), some (.int (nI (kE (S0 2) p))), some (.int (nI (cnt (lowB (S0 2)) p))), some (.int 1), some (.int (nI p)), some (.int (nI (tAtP (S0 2) (nI p) T))), some (.int (nI (pA (S0 2) π p q))), some (.int (nI (pW (S0 2) p 0 q))), some (.int (-(pF (S0 2) π p q))), some (.int (b2i (loB (S0 2) p q))), some (.int (nI q)), l16] [] S0 R P) (fun l16 => ?_) (fun q hq ih l16 => ?_)
  · refine Y_iload rfl rfl ?_
    refine Y_bipush rfl ?_
    refine Y_icmp_ge_t rfl (Int32.le_refl _) ?_
    exact hq_bare hp h8 (hq_with hp (hq_low hp (hq_most hG hπ hp (hq_is hG hπ hp kk))))
  · exact hp_body hG hπ hp hq ih
theorem hq_end (hG : GR (S0 2) T) (hπ : Pot (S0 2) π) (hn : S0 10 1 = nI n) (hm : S0 3 1 = nI m) (hk : ∀ S, LK S0 S → P (some (.int 1)) S R) : Y 0 (fun _ => 0) kLaw_holds 24 886 [some (.ref 0), some (.int (nI T)), some (.int (nI (tAll (S0 2) T))), some (.int (nI (tBareT (S0 2) T))), some (.int (nI (tBare (S0 2) T 12))), some (.int (pM (S0 2) π 12)), some (.int (nI (kE (S0 2) 12))), some (.int (nI (cnt (lowB (S0 2)) 12))), some (.int 1), some (.int (nI 12)), l10, l11, l12, l13, l14, l15, l16] [] S0 R P := by
  have hb := low_bare hG.1
  have hl : cnt (lowB (S0 2)) 12 ≤ 12 := cnt_le _ _
  have e3 : nI (cnt (lowB (S0 2)) 12) - nI (tBare (S0 2) T 12) = nI (cnt (lowR (S0 2) T) 12) := by
    rw [nI_subI (by omega)]
    exact congrArg nI (by omega)
  have hkE := kE_le (S0 2) 12
  have K : Y 0 (fun _ => 0) kLaw_holds 24 980 [some (.ref 0), some (.int (nI T)), some (.int (nI (tAll (S0 2) T))), some (.int (nI (tBareT (S0 2) T))), some (.int (nI (tBare (S0 2) T 12))), some (.int (pM (S0 2) π 12)), some (.int (nI (kE (S0 2) 12))), some (.int (nI (cnt (lowB (S0 2)) 12))), some (.int 1), some (.int (nI 12)), l10, l11, l12, l13, l14, l15, l16] [] S0 R P := by
    refine Y_aload_n rfl rfl ?_
    refine Y_look (lk_known hG) rfl rfl rfl rfl rfl ?_
    refine Y_iload rfl rfl ?_
    refine Y_iconst rfl ?_
    refine Y_idiv rfl (by decide) ?_
    refine Y_v (nI_div (a := kE (S0 2) 12) (b := 2) (by omega) (by decide)) ?_
    refine Y_i2d rfl ?_
    refine Y_ldc2 rfl ?_
    refine Y_ddiv rfl (ddiv_ok _ (by omega)) ?_
    refine Y_dcmpl rfl ?_
    refine Y_if_ne_f rfl ((dc_all _ (by omega))) ?_
    refine Y_iconst rfl ?_
    refine Y_goto rfl ?_
    exact Y_ret rfl rfl (fun S hS => hk S hS)
  refine Y_iload rfl rfl ?_
  refine Y_if_eq_f rfl ((by decide)) ?_
  refine Y_iload_n rfl rfl ?_
  refine Y_aload_n rfl rfl ?_
  refine Y_iconst rfl ?_
  refine Y_look (lk_c1 hG hπ hn hm) rfl rfl rfl rfl rfl ?_
  refine Y_icmp_ne_f rfl (rfl) ?_
  refine Y_iload_n rfl rfl ?_
  refine Y_aload_n rfl rfl ?_
  refine Y_bipush rfl ?_
  refine Y_look (lk_c7 hG hπ hn hm) rfl rfl rfl rfl rfl ?_
  refine Y_icmp_ne_f rfl (rfl) ?_
  refine Y_iload rfl rfl ?_
  refine Y_aload_n rfl rfl ?_
  refine Y_bipush rfl ?_
  refine Y_look (lk_c6 hG hπ hn hm) rfl rfl rfl rfl rfl ?_
  refine Y_icmp_ne_f rfl (rfl) ?_
  refine Y_iload rfl rfl ?_
  refine Y_aload_n rfl rfl ?_
  refine Y_iconst rfl ?_
  refine Y_look (lk_c5 hG hπ hn hm) rfl rfl rfl rfl rfl ?_
  refine Y_icmp_ne_f rfl (rfl) ?_
  refine Y_iload rfl rfl ?_
  refine Y_aload_n rfl rfl ?_
  refine Y_iconst rfl ?_
  refine Y_look (lk_c2 hG hπ hn hm) rfl rfl rfl rfl rfl ?_
  refine Y_icmp_ne_f rfl (rfl) ?_
  refine Y_iload rfl rfl ?_
  refine Y_iload rfl rfl ?_
  refine Y_isub rfl ?_
  refine Y_aload_n rfl rfl ?_
  refine Y_iconst rfl ?_
  refine Y_look (lk_c3 hG hπ hn hm) rfl rfl rfl rfl rfl ?_
  refine Y_icmp_ne_f rfl (e3) ?_
  refine Y_aload_n rfl rfl ?_
  refine Y_iconst rfl ?_
  refine Y_look (lk_c4 hG hπ hn hm) rfl rfl rfl rfl rfl ?_
  by_cases h : 0 < cnt (lowR (S0 2) T) 12
  · refine Y_iload rfl rfl ?_
    refine Y_iload rfl rfl ?_
    refine Y_icmp_le_f rfl (nI_ge (by omega) (by omega)) ?_
    refine Y_iload rfl rfl ?_
    refine Y_iload rfl rfl ?_
    refine Y_isub rfl ?_
    refine Y_iconst rfl ?_
    refine Y_isub rfl ?_
    refine Y_goto rfl ?_
    refine Y_icmp_ne_f rfl ((by rw [if_pos h, e3, show cnt (lowR (S0 2) T) 12 = cnt (lowR (S0 2) T) 12 - 1 + 1 by omega, nI_pred, Nat.add_sub_cancel])) ?_
    exact K
  · refine Y_iload rfl rfl ?_
    refine Y_iload rfl rfl ?_
    refine Y_icmp_le_t rfl (nI_le (by omega) (by omega)) ?_
    refine Y_iconst rfl ?_
    refine Y_icmp_ne_f rfl ((by rw [if_neg h])) ?_
    exact K
theorem lk_holds (hG : GR (S0 2) T) (hπ : Pot (S0 2) π) (hn : S0 10 1 = nI n) (hm : S0 3 1 = nI m) : LM S0 R kLaw_holds [.ref 0] (.int 1) := by
  have h8 := hG.1.2.1
  have h40 := hG.tall
  have hbr := brs_le_all hG
  refine LM_mk [some (.ref 0), none, none, none, none, none, none, none, none, none, none, none, none, none, none, none, none] rfl rfl rfl rfl rfl (rfl) ?_
  refine Y_aload_n rfl rfl ?_
  refine Y_iconst rfl ?_
  refine Y_look (lk_c0 hG hπ hn hm) rfl rfl rfl rfl rfl ?_
  refine Y_ist_17_1 rfl rfl ?_
  refine Y_iconst rfl ?_
  refine Y_ist_17_2 rfl rfl ?_
  refine Y_iconst rfl ?_
  refine Y_ist_17_3 rfl rfl ?_
  refine Y_iconst rfl ?_
  refine Y_ist_17_4 rfl rfl ?_
  refine Y_iconst rfl ?_
  refine Y_ist_17_5 rfl rfl ?_
  refine Y_iconst rfl ?_
  refine Y_ist_17_6 rfl rfl ?_
  refine Y_iconst rfl ?_
  refine Y_ist_17_7 rfl rfl ?_
  refine Y_iload_n rfl rfl ?_
  refine Y_if_lt_f rfl (nI_pos (by omega)) ?_
  refine Y_iload_n rfl rfl ?_
  refine Y_bipush rfl ?_
  refine Y_icmp_gt_f rfl (nI_nlt (a := 8) (b := T) h8 (by decide)) ?_
  refine Y_aload_n rfl rfl ?_
  refine Y_iconst rfl ?_
  refine Y_look (lk_c1 hG hπ hn hm) rfl rfl rfl rfl rfl ?_
  refine Y_bipush rfl ?_
  refine Y_icmp_gt_f rfl (nI_nlt (b := tAll (S0 2) T) (a := 40) h40 (by decide)) ?_
  refine Y_aload_n rfl rfl ?_
  refine Y_iload_n rfl rfl ?_
  refine Y_iconst rfl ?_
  refine Y_look (lk_reading0 hG 0) rfl rfl rfl rfl rfl ?_
  refine Y_iconst rfl ?_
  refine Y_icmp_ne_f rfl (rfl) ?_
  refine Y_aload_n rfl rfl ?_
  refine Y_iload_n rfl rfl ?_
  refine Y_iconst rfl ?_
  refine Y_look (lk_sign0 hG) rfl rfl rfl rfl rfl ?_
  refine Y_iconst rfl ?_
  refine Y_icmp_ne_f rfl (rfl) ?_
  refine Y_aload_n rfl rfl ?_
  refine Y_iconst rfl ?_
  refine Y_look (lk_h0 hG) rfl rfl rfl rfl rfl ?_
  refine Y_aload_n rfl rfl ?_
  refine Y_iconst rfl ?_
  refine Y_look (lk_h1 hG) rfl rfl rfl rfl rfl ?_
  refine Y_icmp_ne_f rfl (rfl) ?_
  refine Y_aload_n rfl rfl ?_
  refine Y_iconst rfl ?_
  refine Y_look (lk_h0 hG) rfl rfl rfl rfl rfl ?_
  refine Y_aload_n rfl rfl ?_
  refine Y_iconst rfl ?_
  refine Y_look (lk_c1 hG hπ hn hm) rfl rfl rfl rfl rfl ?_
  refine Y_icmp_gt_f rfl (nI_nlt hbr (by omega)) ?_
  refine Y_iconst rfl ?_
  refine Y_goto rfl ?_
  refine Y_ist_17_8 rfl rfl ?_
  refine Y_iconst rfl ?_
  refine Y_ist_17_9 rfl rfl ?_
  refine down T (fun t => ∀ l10 l11 l12 l13 l14, Y 0 (fun _ => 0) kLaw_holds 24 98 [some (.ref 0), some (.int (nI T)), some (.int (nI (tAll (S0 2) t))), some (.int (nI (tBareT (S0 2) t))), some (.int 0), some (.int 0), some (.int 0), some (.int 0), some (.int 1), some (.int (nI t)), l10, l11, l12, l13, l14, none, none] [] S0 R _) (fun l10 l11 l12 l13 l14 => ?_) (fun t ht ih l10 l11 l12 l13 l14 => ?_) none none none none none
  · refine Y_iload rfl rfl ?_
    refine Y_iload_n rfl rfl ?_
    refine Y_icmp_ge_t rfl (Int32.le_refl _) ?_
    refine Y_iconst rfl ?_
    refine Y_ist_17_9 rfl rfl ?_
    refine down 12 (fun p => ∀ l10 l11 l12 l13 l14 l15 l16, Y 0 (fun _ => 0) kLaw_holds 24 493 [some (.ref 0), some (.int (nI T)), some (.int (nI (tAll (S0 2) T))), some (.int (nI (tBareT (S0 2) T))), some (.int (nI (tBare (S0 2) T p))), some (.int (pM (S0 2) π p)), some (.int (nI (kE (S0 2) p))), some (.int (nI (cnt (lowB (S0 2)) p))), some (.int 1), some (.int (nI p)), l10, l11, l12, l13, l14, l15, l16] [] S0 R _) (fun l10 l11 l12 l13 l14 l15 l16 => ?_) (fun p hp ih l10 l11 l12 l13 l14 l15 l16 => ?_) l10 l11 l12 l13 l14 none none
    · refine Y_iload rfl rfl ?_
      refine Y_bipush rfl ?_
      refine Y_icmp_ge_t rfl (Int32.le_refl _) ?_
      exact hq_end hG hπ hn hm (fun S hS => ⟨rfl, hS, rfl⟩)
    · exact hq_point hG hπ hp ih
  · exact hd_tape hG hπ ht ih
end HOLDS4
