/-! the law's types: n parts come to the pad -/
section TYPES
variable {S0 S1 S2 : Sf} {R : Rf} {T n m mh len c j k : Nat} {π : Nat → Int32} {P : Po} {x z : Int32} {l5 : Option Value}
theorem ty_151 (hX : PX S0 S1 len c) (hl : len + 3 ≤ 60) (kk : ∀ S2 l2 l5, len < l2 → l2 ≤ len + 3 → PX S0 S2 l2 c → Y 0 (fun _ => 0) kLaw_types 24 23 [some (.ref 0), some (.int x), some (.int (nI n)), some (.int 1), some (.int (nI (k + 1))), l5] [] S2 R P) : Y 0 (fun _ => 0) kLaw_types 24 151 [some (.ref 0), some (.int x), some (.int (nI n)), some (.int 1), some (.int (nI k)), some (.int z)] [] S1 R P := by
  refine Y_aload_n rfl rfl ?_
  refine Y_iload rfl rfl ?_
  refine Y_iconst rfl ?_
  refine Y_ishr rfl ?_
  refine Y_bipush rfl ?_
  refine Y_lookS (lk_low (N := 40) (by decide) (by decide) _) rfl rfl rfl rfl ?_
  refine Y_bipush rfl ?_
  refine Y_isub rfl ?_
  refine Y_deedS (md_digits hX hl (lw_lt (by decide))) rfl rfl rfl rfl (fun w S2 R2 hQ => ?_)
  obtain ⟨rfl, rfl, l2, h1, h2, hX2⟩ := hQ
  refine Y_if_eq_f rfl ((by decide)) ?_
  refine Y_iconst rfl ?_
  refine Y_goto rfl ?_
  refine Y_ist_6_3 rfl rfl ?_
  refine Y_inc_6_4 rfl rfl ?_
  refine Y_goto rfl ?_
  have := kk S2 l2 (some (.int z)) h1 h2 hX2
  rw [nI_succ k] at this
  exact this
theorem ty_142 (hX : PX S0 S1 len c) (hl : len + 4 ≤ 60) (kk : ∀ S2 l2 l5, len < l2 → l2 ≤ len + 4 → PX S0 S2 l2 c → Y 0 (fun _ => 0) kLaw_types 24 23 [some (.ref 0), some (.int x), some (.int (nI n)), some (.int 1), some (.int (nI (k + 1))), l5] [] S2 R P) : Y 0 (fun _ => 0) kLaw_types 24 142 [some (.ref 0), some (.int x), some (.int (nI n)), some (.int 1), some (.int (nI k)), some (.int z)] [] S1 R P := by
  refine Y_aload_n rfl rfl ?_
  refine Y_bipush rfl ?_
  refine Y_deed (md_append (j := 61) hX (by omega) (by decide) (by decide)) rfl rfl rfl rfl rfl (fun w S2 R2 hQ => ?_)
  obtain ⟨rfl, rfl, hX2, -⟩ := hQ
  rw [if_neg (by decide), Nat.add_zero] at hX2
  refine Y_if_le_f rfl (nI_nle (by omega) (by omega)) ?_
  exact ty_151 hX2 (by omega) (fun S3 l2 l5 h1 h2 => kk S3 l2 l5 (by omega) (by omega))
theorem ty_106 (hX : PX S0 S1 len c) (hl : len + 5 ≤ 60) (kk : ∀ S2 l2 l5, len < l2 → l2 ≤ len + 5 → PX S0 S2 l2 c → Y 0 (fun _ => 0) kLaw_types 24 23 [some (.ref 0), some (.int x), some (.int (nI n)), some (.int 1), some (.int (nI (k + 1))), l5] [] S2 R P) : Y 0 (fun _ => 0) kLaw_types 24 106 [some (.ref 0), some (.int x), some (.int (nI n)), some (.int 1), some (.int (nI k)), some (.int z)] [] S1 R P := by
  have K : ∀ d, d < 14 → Y 0 (fun _ => 0) kLaw_types 24 135 [some (.ref 0), some (.int x), some (.int (nI n)), some (.int 1), some (.int (nI k)), some (.int z)] [.int (nI d), .int 97, .ref 0] S1 R P := fun d hd => by
    refine Y_iadd rfl ?_
    refine Y_v (nI_add 97 d) ?_
    refine Y_deed (md_append (j := 97 + d) hX (by omega) (by omega) (by omega)) rfl rfl rfl rfl rfl (fun w S2 R2 hQ => ?_)
    obtain ⟨rfl, rfl, hX2, -⟩ := hQ
    rw [if_neg (by omega), Nat.add_zero] at hX2
    refine Y_if_le_f rfl (nI_nle (by omega) (by omega)) ?_
    exact ty_142 hX2 (by omega) (fun S3 l2 l5 h1 h2 => kk S3 l2 l5 (by omega) (by omega))
  refine Y_aload_n rfl rfl ?_
  refine Y_bipush rfl ?_
  refine Y_iload rfl rfl ?_
  refine Y_iconst rfl ?_
  refine Y_ishr rfl ?_
  refine Y_iload_n rfl rfl ?_
  refine Y_bipush rfl ?_
  refine Y_ishr rfl ?_
  refine Y_bipush rfl ?_
  refine Y_lookS (lk_low (N := 9) (by decide) (by decide) _) rfl rfl rfl rfl ?_
  by_cases h0 : nI (lw (x >>> (23 &&& 31)) 9) = 0
  · refine Y_if_ne_f rfl (h0) ?_
    refine Y_bipush rfl ?_
    refine Y_goto rfl ?_
    refine Y_lookS (lk_low (N := 14) (by decide) (by decide) _) rfl rfl rfl rfl ?_
    exact K _ (lw_lt (by decide))
  · refine Y_if_ne_t rfl (h0) ?_
    refine Y_bipush rfl ?_
    refine Y_lookS (lk_low (N := 12) (by decide) (by decide) _) rfl rfl rfl rfl ?_
    exact K _ (Nat.lt_trans (lw_lt (n := 12) (by decide)) (by decide))
theorem ty_57 (hG : GR (S0 2) T) (hπ : Pot (S0 2) π) (hm : S0 3 1 = nI mh) (hX : PX S0 S1 len c) (hl : len + 6 ≤ 60) (kk : ∀ S2 l2 l5, len < l2 → l2 ≤ len + 6 → PX S0 S2 l2 c → Y 0 (fun _ => 0) kLaw_types 24 23 [some (.ref 0), some (.int x), some (.int (nI n)), some (.int 1), some (.int (nI (k + 1))), l5] [] S2 R P) : Y 0 (fun _ => 0) kLaw_types 24 57 [some (.ref 0), some (.int x), some (.int (nI n)), some (.int 1), some (.int (nI k)), some (.int z)] [] S1 R P := by
  have h8 := hG.1.2.1
  have e2 := PX_2 hX
  have hG1 : GR (S1 2) T := by rw [e2]; exact hG
  have hπ1 : Pot (S1 2) π := by rw [e2]; exact hπ
  have hm1 : S1 3 1 = nI mh := by rw [PX_3 hX]; exact hm
  have K : ∀ d, d < 9 → Y 0 (fun _ => 0) kLaw_types 24 99 [some (.ref 0), some (.int x), some (.int (nI n)), some (.int 1), some (.int (nI k)), some (.int z)] [.int (nI d), .int 48, .ref 0] S1 R P := fun d hd => by
    refine Y_iadd rfl ?_
    refine Y_v (nI_add 48 d) ?_
    refine Y_deed (md_append (j := 48 + d) hX (by omega) (by omega) (by omega)) rfl rfl rfl rfl rfl (fun w S2 R2 hQ => ?_)
    obtain ⟨rfl, rfl, hX2, -⟩ := hQ
    rw [if_neg (by omega), Nat.add_zero] at hX2
    refine Y_if_le_f rfl (nI_nle (by omega) (by omega)) ?_
    exact ty_106 hX2 (by omega) (fun S3 l2 l5 h1 h2 => kk S3 l2 l5 (by omega) (by omega))
  refine Y_aload_n rfl rfl ?_
  refine Y_bipush rfl ?_
  refine Y_iload rfl rfl ?_
  refine Y_iload_n rfl rfl ?_
  refine Y_bipush rfl ?_
  refine Y_ishr rfl ?_
  refine Y_bipush rfl ?_
  refine Y_lookS (lk_low (N := 7) (by decide) (by decide) _) rfl rfl rfl rfl ?_
  by_cases h0 : nI (lw (x >>> (22 &&& 31)) 7) = 0
  · refine Y_if_ne_f rfl (h0) ?_
    refine Y_bipush rfl ?_
    refine Y_goto rfl ?_
    refine Y_lookS (lk_low (N := 9) (by decide) (by decide) _) rfl rfl rfl rfl ?_
    exact K _ (lw_lt (by decide))
  · refine Y_if_ne_t rfl (h0) ?_
    refine Y_aload_n rfl rfl ?_
    refine Y_iconst rfl ?_
    refine Y_look (lk_c0 hG1 hπ1 hX.2.1 hm1) rfl rfl rfl rfl rfl ?_
    by_cases hT : T = 0
    · refine Y_if_ne_f rfl ((by rw [hT]; rfl)) ?_
      refine Y_iconst rfl ?_
      refine Y_goto rfl ?_
      refine Y_lookS (lk_low (N := 1) (by decide) (by decide) _) rfl rfl rfl rfl ?_
      exact K _ (Nat.lt_trans (lw_lt (n := 1) (by decide)) (by decide))
    · refine Y_if_ne_t rfl (nI_ne0 (by omega) (by omega)) ?_
      refine Y_aload_n rfl rfl ?_
      refine Y_iconst rfl ?_
      refine Y_look (lk_c0 hG1 hπ1 hX.2.1 hm1) rfl rfl rfl rfl rfl ?_
      refine Y_lookS (lk_low (N := T) (by omega) (by omega) _) rfl rfl rfl rfl ?_
      exact K _ (by have := lw_lt (v := z) (n := T) (by omega); omega)
theorem md_types (hG : GR (S0 2) T) (hπ : Pot (S0 2) π) (hm : S0 3 1 = nI mh) (hP : PD S0 m) (x : Int32) : MM S0 R kLaw_types [.ref 0, .int x] (TYP S0 R (lw x 7)) := by
  refine MM_mk [some (.ref 0), some (.int x), none, none, none, none] rfl rfl rfl rfl rfl ?_
  refine Y_iload_n rfl rfl ?_
  refine Y_bipush rfl ?_
  refine Y_lookS (lk_low (N := 7) (by decide) (by decide) _) rfl rfl rfl rfl ?_
  have hn7 : lw x 7 < 7 := lw_lt (by decide)
  generalize lw x 7 = n at hn7 ⊢
  refine Y_ist_6_2 rfl rfl ?_
  refine Y_aload_n rfl rfl ?_
  refine Y_deed (md_clear hP) rfl rfl rfl rfl rfl (fun w S1 R1 hQ => ?_)
  obtain ⟨rfl, rfl, hX⟩ := hQ
  refine Y_if_lt_f rfl (nI_pos (by have := hP.2; omega)) ?_
  refine Y_iconst rfl ?_
  refine Y_goto rfl ?_
  refine Y_ist_6_3 rfl rfl ?_
  refine Y_iconst rfl ?_
  refine Y_ist_6_4 rfl rfl ?_
  refine down n (fun k => ∀ S1 len l5, PX S0 S1 len (k - 1) → len ≤ 7 * k → Y 0 (fun _ => 0) kLaw_types 24 23 [some (.ref 0), some (.int x), some (.int (nI n)), some (.int 1), some (.int (nI k)), l5] [] S1 R1 _) (fun S1 len l5 hX hl => ?_) (fun k hk ih S1 len l5 hX hl => ?_) S1 0 none hX (Nat.zero_le _)
  · refine Y_iload rfl rfl ?_
    refine Y_iload_n rfl rfl ?_
    refine Y_icmp_ge_t rfl (Int32.le_refl _) ?_
    refine Y_iload_n rfl rfl ?_
    refine Y_if_eq_f rfl ((by decide)) ?_
    refine Y_iload_n rfl rfl ?_
    refine Y_bipush rfl ?_
    refine Y_ishr rfl ?_
    refine Y_bipush rfl ?_
    refine Y_lookS (lk_low (N := 6) (by decide) (by decide) _) rfl rfl rfl rfl ?_
    have e : (n - 1) + 1 = n ∨ len = 0 := by omega
    by_cases h0 : (0 : Int32) < nI (lw (x >>> (26 &&& 31)) 6)
    · refine Y_if_gt_t rfl (h0) ?_
      refine Y_iconst rfl ?_
      refine Y_goto rfl ?_
      exact Y_ret rfl rfl (fun S hS => ⟨_, rfl, rfl, rfl, rfl, len, n - 1, by omega, PX_lk hX hS, e.imp id (fun q => Or.inl q)⟩)
    · refine Y_if_gt_f rfl (h0) ?_
      refine Y_aload_n rfl rfl ?_
      refine Y_bipush rfl ?_
      refine Y_deed (md_append (j := 44) hX (by omega) (by decide) (by decide)) rfl rfl rfl rfl rfl (fun w S2 R2 hQ => ?_)
      obtain ⟨rfl, rfl, hX2, h44⟩ := hQ
      refine Y_if_le_f rfl (nI_nle (by omega) (by omega)) ?_
      refine Y_iconst rfl ?_
      refine Y_goto rfl ?_
      exact Y_ret rfl rfl (fun S hS => ⟨_, rfl, rfl, rfl, rfl, len + 1, _, by omega, PX_lk hX2 hS, Or.inr (Or.inr ⟨by omega, by rw [hS 11 (by decide)]; exact h44⟩)⟩)
  · refine Y_iload rfl rfl ?_
    refine Y_iload_n rfl rfl ?_
    refine Y_icmp_ge_f rfl (nI_ge hk (by omega)) ?_
    refine Y_iload_n rfl rfl ?_
    refine Y_iconst rfl ?_
    refine Y_iconst rfl ?_
    refine Y_iload rfl rfl ?_
    refine Y_imul rfl ?_
    refine Y_iadd rfl ?_
    refine Y_ishr rfl ?_
    refine Y_ist_6_5 rfl rfl ?_
    refine Y_iload_n rfl rfl ?_
    refine Y_if_eq_f rfl ((by decide)) ?_
    by_cases h0 : k = 0
    · subst h0
      refine Y_iload rfl rfl ?_
      refine Y_if_eq_t rfl (rfl) ?_
      exact ty_57 hG hπ hm hX (by omega) (fun S2 l2 l5 h1 h2 hX2 => ih S2 l2 l5 hX2 (by omega))
    · refine Y_iload rfl rfl ?_
      refine Y_if_eq_f rfl (nI_ne0 (by omega) (by omega)) ?_
      refine Y_aload_n rfl rfl ?_
      refine Y_bipush rfl ?_
      refine Y_deed (md_append (j := 44) hX (by omega) (by decide) (by decide)) rfl rfl rfl rfl rfl (fun w S2 R2 hQ => ?_)
      obtain ⟨rfl, rfl, hX2, -⟩ := hQ
      rw [if_pos rfl, show k - 1 + 1 = k + 1 - 1 by omega] at hX2
      refine Y_if_le_f rfl (nI_nle (by omega) (by omega)) ?_
      exact ty_57 hG hπ hm hX2 (by omega) (fun S3 l2 l5 h1 h2 hX3 => ih S3 l2 l5 hX3 (by omega))
end TYPES
