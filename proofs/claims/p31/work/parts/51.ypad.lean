/-! the pad: appended signs, digits, typed texts -/
/-- behind S0 the pad alone has changed: its length, how many commas it has -/
def PX (S0 S1 : Sf) (len c : Nat) : Prop := (∀ i, i ∉ scr → i ≠ 10 → i ≠ 11 → S1 i = S0 i) ∧ S1 10 1 = nI len ∧ cnt (fun i => decide (S1 11 i = 44)) len = c
section PAD
variable {S0 S1 S2 : Sf} {R : Rf} {T n m len c j k : Nat} {π : Nat → Int32} {P : Po}
theorem PX_lk (h : PX S0 S1 len c) (hl : LK S1 S2) : PX S0 S2 len c := ⟨fun i h1 h2 h3 => by rw [hl i h1]; exact h.1 i h1 h2 h3, by rw [hl 10 (by decide)]; exact h.2.1, by rw [hl 11 (by decide)]; exact h.2.2⟩
theorem PX_2 (h : PX S0 S1 len c) : S1 2 = S0 2 := h.1 2 (by decide) (by decide) (by decide)
theorem PX_3 (h : PX S0 S1 len c) : S1 3 = S0 3 := h.1 3 (by decide) (by decide) (by decide)
/-- an appended sign -/
def AQ (S0 : Sf) (R : Rf) (len c j : Nat) (w : Value) (S2 : Sf) (R2 : Rf) : Prop := w = .int (nI (len + 1)) ∧ R2 = R ∧ PX S0 S2 (len + 1) (c + (if j = 44 then 1 else 0)) ∧ S2 11 len = nI j
theorem md_append (hX : PX S0 S1 len c) (hl : len < 60) (h1 : 33 ≤ j) (h2 : j ≤ 126) : MM S1 R kX_append [.ref 0, .int (nI j)] (AQ S0 R len c j) := fun S hS => by
  have hn : S 10 1 = nI len := by rw [hS 10 (by decide)]; exact hX.2.1
  have h := xm_append S R (n := len) hn (by omega) (nI j)
  have hc : ¬ (nI j < 33 ∨ ¬ nI j ≤ 126) := by
    rintro (q | q)
    · exact nI_nlt (a := j) (b := 33) h1 (by omega) q
    · exact q (nI_le (b := 126) h2 (by decide))
  rw [a_append, if_neg hc, if_pos hl, s_append, if_neg hc, if_pos hl] at h
  have ef : apd (S 11) len [nI j] = upd (S 11) len (nI j) := rfl
  refine ⟨_, _, _, h, rfl, rfl, ⟨fun i q1 q2 q3 => ?_, ?_, ?_⟩, ?_⟩
  · unfold xApp
    rw [u2_ne q2, u2_ne q3, hS i q1]
    exact hX.1 i q1 q2 q3
  · unfold xApp
    rw [u2_same, upd_same]
    rfl
  · unfold xApp
    rw [u2_ne (show 11 ≠ 10 by decide), u2_same, ef, cnt]
    have e1 : cnt (fun i => decide (upd (S 11) len (nI j) i = 44)) len = c := by
      rw [cnt_congr (g := fun i => decide (S1 11 i = 44)) (fun i hi => by rw [upd_ne (show i ≠ len by omega), hS 11 (by decide)])]
      exact hX.2.2
    rw [e1, upd_same]
    by_cases e : j = 44
    · subst e; rfl
    · rw [if_neg e, decide_eq_false (p := nI j = 44) (fun q => e ((nI_eq (b := 44) (by omega) (by decide)).mp q)), cond_false]
  · unfold xApp
    rw [u2_ne (show 11 ≠ 10 by decide), u2_same, ef, upd_same]
theorem md_clear (hP : PD S0 m) : MM S0 R kX_clear [.ref 0] (fun w S2 R2 => w = .int (nI m) ∧ R2 = R ∧ PX S0 S2 0 0) := fun S hS => by
  have h := xm_clear S R
  rw [hS 10 (by decide), hP.1] at h
  exact ⟨_, _, _, h, rfl, rfl, fun i q1 q2 q3 => by rw [u2_ne q2]; exact hS i q1, by rw [u2_same, upd_same]; rfl, rfl⟩
/-- what digits leaves -/
def DG (S0 : Sf) (R : Rf) (len c : Nat) (w : Value) (S2 : Sf) (R2 : Rf) : Prop := w = .int 1 ∧ R2 = R ∧ ∃ l2, len < l2 ∧ l2 ≤ len + 3 ∧ PX S0 S2 l2 c
theorem dg_last {v : Int32} (hX : PX S0 S1 len c) (hl : len < 60) (hk : k < 100) (hk2 : ∀ S2 R2, R2 = R → PX S0 S2 (len + 1) c → P (some (.int 1)) S2 R2) : Y 0 (fun _ => 0) kLaw_digits 24 70 [some (.ref 0), some (.int v), some (.int (nI k))] [] S1 R P := by
  refine Y_aload_n rfl rfl ?_
  refine Y_bipush rfl ?_
  refine Y_iload_n rfl rfl ?_
  refine Y_bipush rfl ?_
  refine Y_irem rfl (by decide) ?_
  refine Y_iadd rfl ?_
  refine Y_v (y := nI (48 + k % 10)) (by rw [show (10 : Int32) = nI 10 from rfl, nI_rem (by omega) (by decide)]; exact nI_add 48 _) ?_
  refine Y_deed (md_append (j := 48 + k % 10) hX hl (by omega) (by omega)) rfl rfl rfl rfl rfl (fun w S2 R2 hQ => ?_)
  obtain ⟨rfl, rfl, hX2, -⟩ := hQ
  rw [if_neg (by omega), Nat.add_zero] at hX2
  refine Y_if_le_f rfl (nI_nle (by omega) (by omega)) ?_
  refine Y_iconst rfl ?_
  refine Y_goto rfl ?_
  exact Y_ret rfl rfl (fun S hS => hk2 S _ rfl (PX_lk hX2 hS))
theorem dg_24 {v : Int32} (hX : PX S0 S1 len c) (hl : len + 2 ≤ 60) (hk : k < 100) (hk2 : ∀ S2 R2 l2, R2 = R → len < l2 → l2 ≤ len + 2 → PX S0 S2 l2 c → P (some (.int 1)) S2 R2) : Y 0 (fun _ => 0) kLaw_digits 24 24 [some (.ref 0), some (.int v), some (.int (nI k))] [] S1 R P := by
  refine Y_iload_n rfl rfl ?_
  refine Y_bipush rfl ?_
  refine Y_icmp_lt_t rfl (nI_lt (b := 100) hk (by decide)) ?_
  by_cases h10 : k < 10
  · refine Y_iload_n rfl rfl ?_
    refine Y_bipush rfl ?_
    refine Y_icmp_lt_t rfl (nI_lt (b := 10) h10 (by decide)) ?_
    exact dg_last hX (by omega) hk (fun S2 R2 q1 q2 => hk2 S2 R2 _ q1 (by omega) (by omega) q2)
  · refine Y_iload_n rfl rfl ?_
    refine Y_bipush rfl ?_
    refine Y_icmp_lt_f rfl (nI_nlt (b := 10) (by omega) (by omega)) ?_
    refine Y_aload_n rfl rfl ?_
    refine Y_bipush rfl ?_
    refine Y_iload_n rfl rfl ?_
    refine Y_bipush rfl ?_
    refine Y_idiv rfl (by decide) ?_
    refine Y_bipush rfl ?_
    refine Y_irem rfl (by decide) ?_
    refine Y_iadd rfl ?_
    refine Y_v (y := nI (48 + k / 10 % 10)) (by rw [show (10 : Int32) = nI 10 from rfl, nI_div (by omega) (by decide), nI_rem (by omega) (by decide)]; exact nI_add 48 _) ?_
    refine Y_deed (md_append (j := 48 + k / 10 % 10) hX (by omega) (by omega) (by omega)) rfl rfl rfl rfl rfl (fun w S2 R2 hQ => ?_)
    obtain ⟨rfl, rfl, hX2, -⟩ := hQ
    rw [if_neg (by omega), Nat.add_zero] at hX2
    refine Y_if_le_f rfl (nI_nle (by omega) (by omega)) ?_
    exact dg_last hX2 (by omega) hk (fun S2 R2 q1 q2 => hk2 S2 R2 _ q1 (by omega) (by omega) q2)
theorem md_digits (hX : PX S0 S1 len c) (hl : len + 3 ≤ 60) (hj : j < 40) : MM S1 R kLaw_digits [.ref 0, .int (nI j - 15)] (DG S0 R len c) := by
  refine MM_mk [some (.ref 0), some (.int (nI j - 15)), none] rfl rfl rfl rfl rfl ?_
  by_cases h15 : 15 ≤ j
  · have e : nI j - 15 = nI (j - 15) := nI_subI (b := 15) h15
    rw [e]
    refine Y_iload_n rfl rfl ?_
    refine Y_if_ge_t rfl (nI_pos' (by omega)) ?_
    refine Y_iload_n rfl rfl ?_
    refine Y_ist_3_2 rfl rfl ?_
    refine Y_iload_n rfl rfl ?_
    refine Y_if_ge_t rfl (nI_pos' (by omega)) ?_
    exact dg_24 hX (by omega) (by omega) (fun S2 R2 l2 q1 q2 q3 q4 => ⟨_, rfl, rfl, rfl, q1, l2, q2, by omega, q4⟩)
  · have e : nI j - 15 = -(nI (15 - j)) := by
      rw [← nI_subI (show j ≤ 15 by omega), show nI 15 = (15 : Int32) from rfl]; grind
    have hneg : ¬ (0 : Int32) ≤ -(nI (15 - j)) := by
      have t1 := nI_toInt (n := 15 - j) (by omega)
      rw [Int32.le_iff_toInt_le, tI_neg (by omega) (by omega), tI_0]
      omega
    rw [e]
    refine Y_iload_n rfl rfl ?_
    refine Y_if_ge_f rfl (hneg) ?_
    refine Y_iload_n rfl rfl ?_
    refine Y_ineg rfl ?_
    refine Y_v (Int32.neg_neg) ?_
    refine Y_goto rfl ?_
    refine Y_ist_3_2 rfl rfl ?_
    refine Y_iload_n rfl rfl ?_
    refine Y_if_ge_f rfl (hneg) ?_
    refine Y_aload_n rfl rfl ?_
    refine Y_bipush rfl ?_
    refine Y_deed (md_append (j := 45) hX (by omega) (by decide) (by decide)) rfl rfl rfl rfl rfl (fun w S2 R2 hQ => ?_)
    obtain ⟨rfl, rfl, hX2, -⟩ := hQ
    rw [if_neg (by omega), Nat.add_zero] at hX2
    refine Y_if_le_f rfl (nI_nle (by omega) (by omega)) ?_
    exact dg_24 hX2 (by omega) (by omega) (fun S2 R2 l2 q1 q2 q3 q4 => ⟨_, rfl, rfl, rfl, q1, l2, by omega, by omega, q4⟩)
/-- what types leaves: n parts typed -/
def TYP (S0 : Sf) (R : Rf) (n : Nat) (w : Value) (S2 : Sf) (R2 : Rf) : Prop := w = .int 1 ∧ R2 = R ∧ ∃ len c, len ≤ 60 ∧ PX S0 S2 len c ∧ (c + 1 = n ∨ len = 0 ∨ (0 < len ∧ S2 11 (len - 1) = 44))
end PAD
