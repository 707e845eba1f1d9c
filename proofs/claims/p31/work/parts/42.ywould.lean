/-! the law's would: it answers 1 of every good row and every number -/
section WOULD
variable {S0 : Sf} {R : Rf} {T n m : Nat} {π row : Nat → Int32} {t p q o : Nat} {P : Po}
theorem cnt_disj {f g : Nat → Bool} : ∀ n, (∀ i, i < n → f i = true → g i = false) → cnt f n + cnt g n ≤ n
  | 0, _ => Nat.le_refl 0
  | n + 1, h => by
    have ih := cnt_disj (f := f) (g := g) n (fun i hi => h i (by omega))
    have := h n (by omega)
    unfold cnt
    cases hf : f n with
    | false => rw [cond_false]; cases g n <;> simp <;> omega
    | true => rw [this hf]; simp; omega
theorem nP_36 (hc : cB row (12 + t) p = false) : nP row t p ≤ 36 := by
  have h := cnt_disj (f := fun i => cB row (12 + t) (0 + i)) (g := fun i => cB row p (0 + i)) 12 (fun i hi h1 => by
    cases h2 : cB row p (0 + i) with
    | false => rfl
    | true => rw [cB_tr h1 (cB_sy ▸ h2 : cB row (0 + i) p = true)] at hc; cases hc)
  unfold nP
  rw [hc, cond_false]
  have key : ∀ a, a < 13 → ∀ b, b < 13 → a + b ≤ 12 → a * b ≤ 36 := by decide
  have h' : pW row (12 + t) 0 12 + pW row p 0 12 ≤ 12 := h
  exact key _ (by omega) _ (by omega) h'
theorem nP_0 (ht : t < 8) (hp : p < 12) (hc : cB row (12 + t) p = false) : nP row t p = 0 ↔ tOf row (nI t) 12 = 0 := by
  have hs1 := pW_self (row := row) hp
  unfold nP
  rw [hc, cond_false, tOf_hsn ht 12 (Nat.le_refl 12)]
  constructor
  · intro h
    have h0 : pW row (12 + t) 0 12 = 0 := by
      rcases Nat.mul_eq_zero.mp h with h | h
      · exact h
      · omega
    exact cnt_0.mpr (fun i hi => by
      cases hh : hs row (t * 12 + i) with
      | false => rfl
      | true =>
        have := cnt_0.mp h0 i hi
        rw [Nat.zero_add, cB_hs ht hi hh] at this
        cases this)
  · intro h
    have h0 : pW row (12 + t) 0 12 = 0 := cnt_0.mpr (fun i hi => by
      rw [Nat.zero_add]
      cases hb : cB row (12 + t) i with
      | false => rfl
      | true =>
        obtain ⟨q, hq, hh⟩ := cB_hsx ht (show i < 20 by omega) (by omega) hb
        have := cnt_0.mp h q hq
        rw [hh] at this
        cases this)
    rw [h0, Nat.zero_mul]
theorem bR_1 (row : Nat → Int32) : ∀ m, (bR row m).1 < m + 1 ∧ (0 < m → (bR row m).1 < m) ∧ (bR row m).2 ≤ nP row ((bR row m).1 / 12) ((bR row m).1 % 12) ∧ ∀ j, j < m → nP row (j / 12) (j % 12) ≤ (bR row m).2
  | 0 => ⟨Nat.lt_succ_self 0, fun h => absurd h (by decide), Nat.zero_le _, fun j h => absurd h (by omega)⟩
  | m + 1 => by
    obtain ⟨h1, h2, h3, h4⟩ := bR_1 row m
    rw [bR]
    by_cases h : (bR row m).2 < nP row (m / 12) (m % 12)
    · rw [if_pos h]
      exact ⟨by show m < _; omega, fun _ => by show m < _; omega, Nat.le_refl _, fun j hj => by
        by_cases e : j = m
        · rw [e]; exact Nat.le_refl _
        · have := h4 j (by omega)
          show _ ≤ nP row (m / 12) (m % 12)
          omega⟩
    · rw [if_neg h]
      refine ⟨by omega, fun _ => by omega, h3, fun j hj => ?_⟩
      by_cases e : j = m
      · rw [e]; omega
      · exact h4 j (by omega)
variable {x pv v c6 c7 c8 c9 c10 c11 c13 c14 : Int32} {l14 l15 : Option Value}
theorem wd_end (hT8 : T ≤ 8) (hk : ∀ S, LK S0 S → P (some (.int 1)) S R) : Y 0 (fun _ => 0) kLaw_would 24 454 [some (.ref 0), some (.int x), some (.int (nI T)), some (.int (nI t)), some (.int (pv)), some (.int v), some (.int c6), some (.int c7), some (.int c8), some (.int c9), some (.int c10), some (.int c11), some (.int (a_best (S0 2) T)), some (.int c13), some (.int c14), some (.int 1)] [] S0 R P := by
  refine Y_iload rfl rfl ?_
  refine Y_if_eq_f rfl ((by decide)) ?_
  by_cases h : T = 0
  · subst h
    refine Y_iload_n rfl rfl ?_
    refine Y_if_ne_f rfl (rfl) ?_
    refine Y_iconst rfl ?_
    refine Y_goto rfl ?_
    refine Y_iload rfl rfl ?_
    refine Y_bipush rfl ?_
    refine Y_icmp_ne_f rfl (rfl) ?_
    refine Y_iconst rfl ?_
    refine Y_goto rfl ?_
    refine Y_icmp_ne_f rfl (rfl) ?_
    refine Y_iconst rfl ?_
    refine Y_goto rfl ?_
    exact Y_ret rfl rfl (fun S hS => hk S hS)
  · have hb := bR_lt (S0 2) (T * 12)
    refine Y_iload_n rfl rfl ?_
    refine Y_if_ne_t rfl (nI_ne0 (by omega) (by omega)) ?_
    refine Y_iconst rfl ?_
    refine Y_iload rfl rfl ?_
    refine Y_bipush rfl ?_
    refine Y_icmp_ne_t rfl ((by unfold a_best; rw [if_neg h]; exact nI_n4 (by omega))) ?_
    refine Y_iconst rfl ?_
    refine Y_icmp_ne_f rfl (rfl) ?_
    refine Y_iconst rfl ?_
    refine Y_goto rfl ?_
    exact Y_ret rfl rfl (fun S hS => hk S hS)
theorem wd_far (hG : GR (S0 2) T) (hπ : Pot (S0 2) π) (ht : t ≤ T) (ho : o ≤ T) (hk : ∀ S, LK S0 S → P (some (.int 1)) S R) : Y 0 (fun _ => 0) kLaw_would 24 357 [some (.ref 0), some (.int x), some (.int (nI T)), some (.int (nI t)), some (.int (pv)), some (.int v), some (.int c6), some (.int c7), some (.int c8), some (.int c9), some (.int c10), some (.int c11), some (.int (a_best (S0 2) T)), some (.int (nI o)), some (.int (a_zeros (S0 2) π (nI t) (nI o))), l15] [.int 1] S0 R P := by
  have h8 := hG.1.2.1
  have E := @wd_end
  have K : Y 0 (fun _ => 0) kLaw_would 24 447 [some (.ref 0), some (.int x), some (.int (nI T)), some (.int (nI t)), some (.int (pv)), some (.int v), some (.int c6), some (.int c7), some (.int c8), some (.int c9), some (.int c10), some (.int c11), some (.int (a_best (S0 2) T)), some (.int (nI o)), some (.int (a_zeros (S0 2) π (nI t) (nI o))), some (.int 1)] [] S0 R P := by
    refine Y_iconst rfl ?_
    refine Y_goto rfl ?_
    refine Y_ist_16_15 rfl rfl ?_
    exact wd_end h8 hk
  refine Y_ist_16_15 rfl rfl ?_
  refine Y_iload rfl rfl ?_
  refine Y_if_eq_f rfl ((by decide)) ?_
  by_cases h1 : t = T
  · refine Y_iload_n rfl rfl ?_
    refine Y_iload_n rfl rfl ?_
    refine Y_icmp_eq_t rfl (congrArg nI h1) ?_
    refine Y_iload rfl rfl ?_
    refine Y_iconst rfl ?_
    refine Y_icmp_ne_f rfl ((by unfold a_zeros; rw [h1, tIs_T hG.1]; rfl)) ?_
    refine Y_goto rfl ?_
    exact K
  · have ht : t < T := by omega
    refine Y_iload_n rfl rfl ?_
    refine Y_iload_n rfl rfl ?_
    refine Y_icmp_eq_f rfl ((fun e => h1 ((nI_eq (by omega) (by omega)).mp e))) ?_
    by_cases h2 : o = T
    · refine Y_iload rfl rfl ?_
      refine Y_iload_n rfl rfl ?_
      refine Y_icmp_ne_f rfl (congrArg nI h2) ?_
      refine Y_iload rfl rfl ?_
      refine Y_iconst rfl ?_
      refine Y_icmp_ne_f rfl ((by unfold a_zeros; rw [h2, tIs_T hG.1, Bool.and_false]; rfl)) ?_
      refine Y_goto rfl ?_
      exact K
    · have ho : o < T := by omega
      have ez : a_zeros (S0 2) π (nI t) (nI o) = fV (S0 2) π (12 + t) (12 + o) := by
        rw [a_zeros, tIs_nI hG.1.1 h8 ht, tIs_nI hG.1.1 h8 ho, nI_clamp (by omega), nI_clamp (by omega)]; rfl
      refine Y_iload rfl rfl ?_
      refine Y_iload_n rfl rfl ?_
      refine Y_icmp_ne_t rfl ((fun e => h2 ((nI_eq (by omega) (by omega)).mp e))) ?_
      by_cases h3 : t = o
      · refine Y_iload_n rfl rfl ?_
        refine Y_iload rfl rfl ?_
        refine Y_icmp_ne_f rfl (congrArg nI h3) ?_
        refine Y_iload rfl rfl ?_
        refine Y_ldc rfl ?_
        refine Y_icmp_ne_f rfl ((by rw [ez, h3, fV_t cB_self]; grind)) ?_
        refine Y_goto rfl ?_
        exact K
      · refine Y_iload_n rfl rfl ?_
        refine Y_iload rfl rfl ?_
        refine Y_icmp_ne_t rfl ((fun e => h3 ((nI_eq (by omega) (by omega)).mp e))) ?_
        cases hc : cB (S0 2) (12 + t) (12 + o) with
        | false =>
          refine Y_iload rfl rfl ?_
          refine Y_bipush rfl ?_
          refine Y_icmp_ne_f rfl ((by rw [ez]; exact fV_f hc)) ?_
          refine Y_aload_n rfl rfl ?_
          refine Y_iload rfl rfl ?_
          refine Y_iload_n rfl rfl ?_
          refine Y_look (lk_zeros hG hπ ho ht) rfl rfl rfl rfl rfl ?_
          refine Y_bipush rfl ?_
          refine Y_icmp_ne_f rfl (fV_f (cB_sy ▸ hc)) ?_
          refine Y_goto rfl ?_
          exact K
        | true =>
          refine Y_iload rfl rfl ?_
          refine Y_bipush rfl ?_
          refine Y_icmp_ne_t rfl ((by rw [ez]; exact fV_ne hG hπ (by omega) (by omega) hc)) ?_
          refine Y_aload_n rfl rfl ?_
          refine Y_iload rfl rfl ?_
          refine Y_iload_n rfl rfl ?_
          refine Y_look (lk_zeros hG hπ ho ht) rfl rfl rfl rfl rfl ?_
          refine Y_ldc rfl ?_
          refine Y_iload rfl rfl ?_
          refine Y_isub rfl ?_
          refine Y_icmp_ne_f rfl ((by rw [ez]; exact fV_back hc)) ?_
          refine Y_aload_n rfl rfl ?_
          refine Y_iload_n rfl rfl ?_
          refine Y_iconst rfl ?_
          refine Y_look (lk_t4 hG ht) rfl rfl rfl rfl rfl ?_
          have h2 : 2 ≤ pW (S0 2) (12 + t) 12 T := by
            have hle := pW_T1 (row := S0 2) ht
            refine Decidable.byContradiction fun q => ?_
            have e1 : cnt (fun i => cB (S0 2) (12 + t) (12 + i)) T = 1 := by unfold pW at q hle; omega
            have := cnt_one e1 ht cB_self ho (fun e => h3 e.symm)
            rw [hc] at this
            cases this
          have hle : pW (S0 2) (12 + t) 12 T ≤ T := cnt_le _ _
          refine Y_iconst rfl ?_
          refine Y_icmp_le_f rfl (nI_ge (b := pW (S0 2) (12 + t) 12 T) (a := 1) (by omega) (by omega)) ?_
          exact K
theorem wd_no (h0 : T ≤ 8) (kk : Y 0 (fun _ => 0) kLaw_would 24 357 [some (.ref 0), some (.int x), some (.int (nI T)), some (.int (nI t)), some (.int (pv)), some (.int v), some (.int 1), some (.int c7), some (.int (-1)), some (.int (-1)), some (.int (-1)), some (.int (-1)), some (.int (a_best (S0 2) T)), some (.int c13), some (.int c14), l15] [.int 1] S0 R P) : Y 0 (fun _ => 0) kLaw_would 24 185 [some (.ref 0), some (.int x), some (.int (nI T)), some (.int (nI t)), some (.int (pv)), some (.int v), some (.int 1), some (.int c7), some (.int (-1)), some (.int (-1)), some (.int (-1)), some (.int (-1)), some (.int (a_best (S0 2) T)), some (.int c13), some (.int c14), l15] [] S0 R P := by
  refine Y_iload rfl rfl ?_
  refine Y_if_eq_f rfl ((by decide)) ?_
  refine Y_iload rfl rfl ?_
  refine Y_iconst rfl ?_
  refine Y_icmp_ne_f rfl (rfl) ?_
  refine Y_iload rfl rfl ?_
  refine Y_iconst rfl ?_
  refine Y_icmp_ne_f rfl (rfl) ?_
  refine Y_iload rfl rfl ?_
  refine Y_iconst rfl ?_
  refine Y_icmp_ne_f rfl (rfl) ?_
  refine Y_iload rfl rfl ?_
  refine Y_iconst rfl ?_
  refine Y_icmp_ne_f rfl (rfl) ?_
  refine Y_iconst rfl ?_
  refine Y_goto rfl ?_
  exact kk
theorem wd_best (hG : GR (S0 2) T) (ht : t < T) (hp : p < 12) (kk : Y 0 (fun _ => 0) kLaw_would 24 357 [some (.ref 0), some (.int x), some (.int (nI T)), some (.int (nI t)), some (.int (pv)), some (.int v), some (.int c6), some (.int c7), some (.int c8), some (.int (nI (nP (S0 2) t p))), some (.int (fV (S0 2) π (12 + t) p)), some (.int (rv (S0 2) (t * 12 + p))), some (.int (a_best (S0 2) T)), some (.int c13), some (.int c14), l15] [.int 1] S0 R P) : Y 0 (fun _ => 0) kLaw_would 24 328 [some (.ref 0), some (.int x), some (.int (nI T)), some (.int (nI t)), some (.int (pv)), some (.int v), some (.int c6), some (.int c7), some (.int c8), some (.int (nI (nP (S0 2) t p))), some (.int (fV (S0 2) π (12 + t) p)), some (.int (rv (S0 2) (t * 12 + p))), some (.int (a_best (S0 2) T)), some (.int c13), some (.int c14), l15] [] S0 R P := by
  have h8 := hG.1.2.1
  obtain ⟨b1, b2, b3, b4⟩ := bR_1 (S0 2) (T * 12)
  have b2 := b2 (by omega)
  have b4 := b4 (t * 12 + p) (by omega)
  rw [show (t * 12 + p) / 12 = t by omega, show (t * 12 + p) % 12 = p by omega] at b4
  have eb : a_best (S0 2) T = nI (bR (S0 2) (T * 12)).1 := if_neg (by omega)
  rw [eb] at kk ⊢
  generalize (bR (S0 2) (T * 12)).1 = z at *
  have hle := nP_le (S0 2) (z / 12) (z % 12)
  refine Y_iload rfl rfl ?_
  refine Y_if_lt_f rfl (nI_pos (by omega)) ?_
  refine Y_aload_n rfl rfl ?_
  refine Y_iload rfl rfl ?_
  refine Y_bipush rfl ?_
  refine Y_idiv rfl (by decide) ?_
  refine Y_iload rfl rfl ?_
  refine Y_bipush rfl ?_
  refine Y_irem rfl (by decide) ?_
  refine Y_v (y := nI (z % 12)) (nI_rem (a := z) (b := 12) (by omega) (by decide)) ?_
  refine Y_v1 (y := nI (z / 12)) (nI_div (a := z) (b := 12) (by omega) (by decide)) ?_
  refine Y_look (lk_ifRead hG (t := z / 12) (p := z % 12) (by omega) (by omega)) rfl rfl rfl rfl rfl ?_
  refine Y_iload rfl rfl ?_
  refine Y_icmp_lt_f rfl (nI_nlt (by omega) (by omega)) ?_
  refine Y_iconst rfl ?_
  refine Y_goto rfl ?_
  exact kk
theorem wd_more (hG : GR (S0 2) T) (hπ : Pot (S0 2) π) (ht : t < T) (hp : p < 12) (kk : Y 0 (fun _ => 0) kLaw_would 24 357 [some (.ref 0), some (.int x), some (.int (nI T)), some (.int (nI t)), some (.int (pv)), some (.int v), some (.int c6), some (.int c7), some (.int c8), some (.int (nI (nP (S0 2) t p))), some (.int (fV (S0 2) π (12 + t) p)), some (.int (rv (S0 2) (t * 12 + p))), some (.int (a_best (S0 2) T)), some (.int c13), some (.int c14), l15] [.int 1] S0 R P) : Y 0 (fun _ => 0) kLaw_would 24 274 [some (.ref 0), some (.int x), some (.int (nI T)), some (.int (nI t)), some (.int (pv)), some (.int v), some (.int c6), some (.int c7), some (.int c8), some (.int (nI (nP (S0 2) t p))), some (.int (fV (S0 2) π (12 + t) p)), some (.int (rv (S0 2) (t * 12 + p))), some (.int (a_best (S0 2) T)), some (.int c13), some (.int c14), l15] [] S0 R P := by
  have h8 := hG.1.2.1
  have K := wd_best hG ht hp kk
  have hle := nP_le (S0 2) t p
  cases hc : cB (S0 2) (12 + t) p with
  | true =>
    refine Y_iload rfl rfl ?_
    refine Y_bipush rfl ?_
    refine Y_icmp_eq_f rfl (fV_ne hG hπ (by omega) (by omega) hc) ?_
    refine Y_iload rfl rfl ?_
    refine Y_if_ne_f rfl ((by unfold nP; rw [hc, cond_true]; rfl)) ?_
    refine Y_goto rfl ?_
    exact K
  | false =>
    have h36 := nP_36 hc
    have h0 := nP_0 (show t < 8 by omega) hp hc
    have htl := tOf_le (row := S0 2) (t := t) 12
    refine Y_iload rfl rfl ?_
    refine Y_bipush rfl ?_
    refine Y_icmp_eq_t rfl (fV_f hc) ?_
    refine Y_iload rfl rfl ?_
    refine Y_if_lt_f rfl (nI_pos (by omega)) ?_
    refine Y_iload rfl rfl ?_
    refine Y_bipush rfl ?_
    refine Y_icmp_gt_f rfl (nI_nlt (a := 36) h36 (by decide)) ?_
    by_cases hz : nP (S0 2) t p = 0
    · refine Y_iload rfl rfl ?_
      refine Y_if_ne_f rfl ((by rw [hz]; rfl)) ?_
      refine Y_iconst rfl ?_
      refine Y_goto rfl ?_
      refine Y_aload_n rfl rfl ?_
      refine Y_iload_n rfl rfl ?_
      refine Y_iconst rfl ?_
      refine Y_look (lk_t0 hG ht) rfl rfl rfl rfl rfl ?_
      refine Y_if_ne_f rfl ((by rw [h0.mp hz]; rfl)) ?_
      refine Y_iconst rfl ?_
      refine Y_goto rfl ?_
      refine Y_icmp_ne_f rfl (rfl) ?_
      exact K
    · refine Y_iload rfl rfl ?_
      refine Y_if_ne_t rfl (nI_ne0 (by omega) (by omega)) ?_
      refine Y_iconst rfl ?_
      refine Y_aload_n rfl rfl ?_
      refine Y_iload_n rfl rfl ?_
      refine Y_iconst rfl ?_
      refine Y_look (lk_t0 hG ht) rfl rfl rfl rfl rfl ?_
      refine Y_if_ne_t rfl (nI_ne0 (Nat.pos_of_ne_zero (fun e => hz (h0.mpr e))) (by omega)) ?_
      refine Y_iconst rfl ?_
      refine Y_icmp_ne_f rfl (rfl) ?_
      exact K
theorem wd_main (hG : GR (S0 2) T) (hπ : Pot (S0 2) π) (ht : t < T) (hp : p < 12) (kk : ∀ c8, Y 0 (fun _ => 0) kLaw_would 24 357 [some (.ref 0), some (.int x), some (.int (nI T)), some (.int (nI t)), some (.int (nI p)), some (.int v), some (.int 0), some (.int (b2i (!isNb v))), some (.int c8), some (.int (nI (nP (S0 2) t p))), some (.int (fV (S0 2) π (12 + t) p)), some (.int (rv (S0 2) (t * 12 + p))), some (.int (a_best (S0 2) T)), some (.int c13), some (.int c14), l15] [.int 1] S0 R P) : Y 0 (fun _ => 0) kLaw_would 24 185 [some (.ref 0), some (.int x), some (.int (nI T)), some (.int (nI t)), some (.int (nI p)), some (.int v), some (.int 0), some (.int (b2i (!isNb v))), some (.int (a_whyNot (S0 2) π (nI t) (nI p) v)), some (.int (nI (nP (S0 2) t p))), some (.int (fV (S0 2) π (12 + t) p)), some (.int (rv (S0 2) (t * 12 + p))), some (.int (a_best (S0 2) T)), some (.int c13), some (.int c14), l15] [] S0 R P := by
  have h8 := hG.1.2.1
  have K := wd_more hG hπ ht hp (kk (a_whyNot (S0 2) π (nI t) (nI p) v))
  refine Y_iload rfl rfl ?_
  refine Y_if_eq_t rfl (rfl) ?_
  cases hv : isNb v with
  | false =>
    rw [hv] at K
    refine Y_iload rfl rfl ?_
    refine Y_if_eq_f rfl ((by decide)) ?_
    refine Y_iload rfl rfl ?_
    refine Y_iconst rfl ?_
    refine Y_icmp_ne_f rfl ((by rw [a_whyNot, hv, Bool.and_false, Bool.and_false]; rfl)) ?_
    refine Y_goto rfl ?_
    exact K
  | true =>
    have ew : a_whyNot (S0 2) π (nI t) (nI p) v = rsV (S0 2) π t p v := by
      rw [a_whyNot, tIs_nI hG.1.1 h8 ht, isPt_nI hp, hv, nI_clamp (by omega), nI_clamp (by omega)]; rfl
    rw [hv] at K
    rw [ew] at K ⊢
    refine Y_iload rfl rfl ?_
    refine Y_if_eq_t rfl (rfl) ?_
    cases hh : hs (S0 2) (t * 12 + p) with
    | true =>
      refine Y_iload rfl rfl ?_
      refine Y_iload rfl rfl ?_
      refine Y_bipush rfl ?_
      refine Y_icmp_eq_f rfl (rv_ne hG.2.1 (by omega) hh) ?_
      refine Y_iconst rfl ?_
      refine Y_goto rfl ?_
      refine Y_icmp_ne_f rfl ((by rw [rsV, hh, cond_true])) ?_
      exact K
    | false =>
      refine Y_iload rfl rfl ?_
      refine Y_iload rfl rfl ?_
      refine Y_bipush rfl ?_
      refine Y_icmp_eq_t rfl (rv_f hh) ?_
      cases hc : cB (S0 2) (12 + t) p with
      | false =>
        refine Y_iload rfl rfl ?_
        refine Y_bipush rfl ?_
        refine Y_icmp_eq_t rfl (fV_f hc) ?_
        refine Y_iconst rfl ?_
        refine Y_icmp_ne_f rfl ((by rw [rsV, hh, hc, Bool.false_and, cond_false, cond_false])) ?_
        exact K
      | true =>
        refine Y_iload rfl rfl ?_
        refine Y_bipush rfl ?_
        refine Y_icmp_eq_f rfl (fV_ne hG hπ (by omega) (by omega) hc) ?_
        by_cases he : π p - π (12 + t) = v
        · refine Y_iload rfl rfl ?_
          refine Y_ldc rfl ?_
          refine Y_iload rfl rfl ?_
          refine Y_iadd rfl ?_
          refine Y_icmp_eq_t rfl ((by rw [fV_t hc, he])) ?_
          refine Y_iconst rfl ?_
          refine Y_icmp_ne_f rfl ((by rw [rsV, hh, hc, decide_eq_true he]; rfl)) ?_
          exact K
        · refine Y_iload rfl rfl ?_
          refine Y_ldc rfl ?_
          refine Y_iload rfl rfl ?_
          refine Y_iadd rfl ?_
          refine Y_icmp_eq_f rfl ((fun e => he (by rw [fV_t hc] at e; grind))) ?_
          refine Y_iconst rfl ?_
          refine Y_goto rfl ?_
          refine Y_icmp_ne_f rfl ((by rw [rsV, hh, hc, decide_eq_false he]; rfl)) ?_
          exact K
end WOULD
