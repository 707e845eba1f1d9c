/-! the document's own reckoning: deeds, part 2 -/
theorem CR_tally {row : Nat → Int32} {T k : Nat} {s : Nat → Int32} (hC : CR row T s) (hk : k < 4) : CR (upd row (97 + k) (row (97 + k) + 1)) T (upd s (2 + k) (s (2 + k) + 1)) := by
  obtain ⟨h1, h2, h3, h4, h5, h6, h7, h8, h9⟩ := hC
  have e : ∀ i, i < 96 → hs (upd row (97 + k) (row (97 + k) + 1)) i = hs row i := fun i hi => by rw [hs_up2, if_neg (by omega)]
  have sel : ∀ i, i < 4 → s (2 + i) = row (97 + i) → upd s (2 + k) (s (2 + k) + 1) (2 + i) = upd row (97 + k) (row (97 + k) + 1) (97 + i) := fun i hi q => by
    by_cases ei : i = k
    · subst ei; rw [upd_same, upd_same, q]
    · rw [upd_ne (by omega), upd_ne (by omega), q]
  refine ⟨NT_u (Or.inl (by omega)) h1, fun i hi hh => ?_, ?_, ?_, sel 0 (by omega) h5, sel 1 (by omega) h6, sel 2 (by omega) h7, sel 3 (by omega) h8, fun i hi => ?_⟩
  · rw [e i hi] at hh
    rw [upd_ne (by omega)]
    exact h2 i hi hh
  · rw [upd_ne (by omega), h3]
  · rw [upd_ne (by omega), h4, cnt_congr (fun i hi => e i hi)]
  · rw [upd_ne (by omega), upd_ne (by omega)]
    exact h9 i hi
/-- what the reading of a number answers, and the table then -/
noncomputable def enR (row π : Nat → Int32) (a p : Nat) (x : Int32) : Nat → Int32 := if rsV row π a p x = 0 then upd (upd row (a * 12 + p) x) 97 (row 97 + 1) else upd row 98 (row 98 + 1)
noncomputable def enA (row π : Nat → Int32) (T a p : Nat) (x : Int32) : Int32 := if rsV row π a p x = 0 then 10 + nI (tAll (enR row π a p x) T) else rsV row π a p x
theorem EN_det {row row' π : Nat → Int32} {T a p : Nat} {x r : Int32} (hπ : Pot row π) (h : EN row T a p x r row') : r = enA row π T a p x ∧ row' = enR row π a p x := by
  obtain ⟨rs, h1, h2, h3⟩ := h
  have e := RS_V hπ h1
  unfold enA enR
  rw [← e]
  by_cases z : rs = 0
  · rw [if_pos z, if_pos z]
    obtain ⟨q1, q2⟩ := h3 z
    rw [q2, q1]
    exact ⟨rfl, rfl⟩
  · rw [if_neg z, if_neg z]
    exact h2 z
theorem rsV_cases {row π : Nat → Int32} {a p : Nat} {x : Int32} : rsV row π a p x = 0 ∨ rsV row π a p x = 1 ∨ rsV row π a p x = 2 := by
  unfold rsV
  cases hs row (a * 12 + p)
  · cases cB row (12 + a) p && !decide (π p - π (12 + a) = x)
    · exact Or.inl rfl
    · exact Or.inr (Or.inr rfl)
  · exact Or.inr (Or.inl rfl)
section MD2
variable (S : Nat → Nat → Int32) (R : Nat → Nat) {row : Nat → Int32} {T : Nat} {π : Nat → Int32}
def ms_append (n : Nat) (c : Int32) : Nat → Nat → Int32 := if c < 33 ∨ ¬ c ≤ 126 then S else if n < 60 then u2 (u2 S 28 (upd (S 28) n c)) 24 (upd (S 24) 6 (nI (n + 1))) else S
set_option maxRecDepth 100000 in
theorem mm_append {n : Nat} (hn : S 24 6 = nI n) (hc : n ≤ 60) (c : Int32) : EvM kM_append [.ref 24, .int c] (mk S R) (some (.int (a_append n c))) (mk (ms_append S n c) R) := by
  have c1 := ev_min S R c 33 126
  unfold a_append ms_append
  have hb : mIn c 33 126 = decide (¬ (c < 33 ∨ ¬ c ≤ 126)) := by
    unfold mIn
    have : (¬ (126 : Int32) < c) ↔ c ≤ 126 := Int32.not_lt
    by_cases q1 : c < 33 <;> by_cases q2 : c ≤ 126 <;> simp [q1, q2, this]
  rw [hb] at c1
  by_cases h : c < 33 ∨ ¬ c ≤ 126
  · rw [if_pos h, if_pos h]
    rw [decide_eq_false (fun q => q h)] at c1
    refine EvM_mk [some (.ref 24), some (.int c)] rfl rfl rfl rfl rfl (trivial) ?_
    refine G_iload_n rfl rfl ?_
    refine G_bipush rfl ?_
    refine G_bipush rfl ?_
    refine H_callS (c1) rfl rfl rfl rfl rfl ?_
    refine G_if_ne rfl (fun h1 => ?_) (fun h1 => ?_)
    · exact absurd rfl h1
    refine G_iconst rfl ?_
    exact H_ret rfl rfl (rfl) (rfl)
  · rw [if_neg h, if_neg h]
    rw [decide_eq_true h] at c1
    by_cases h6 : n < 60
    · rw [if_pos h6, if_pos h6]
      refine EvM_mk [some (.ref 24), some (.int c)] rfl rfl rfl rfl rfl (trivial) ?_
      refine G_iload_n rfl rfl ?_
      refine G_bipush rfl ?_
      refine G_bipush rfl ?_
      refine H_callS (c1) rfl rfl rfl rfl rfl ?_
      refine G_if_ne rfl (fun h1 => ?_) (fun h1 => ?_)
      · skip
        refine G_aload_n rfl rfl ?_
        refine H_getI rfl rfl rfl rfl ?_
        refine G_bipush rfl ?_
        refine G_icmp_ne rfl (fun h2 => ?_) (fun h2 => ?_)
        · skip
          refine G_aload_n rfl rfl ?_
          refine H_getR rfl rfl rfl rfl rfl rfl ?_
          refine G_aload_n rfl rfl ?_
          refine H_getI rfl rfl rfl rfl ?_
          refine G_iload_n rfl rfl ?_
          refine H_iast rfl (hn) (rfl) (h6) (rfl) ?_
          refine G_aload_n rfl rfl ?_
          refine G_dup rfl rfl ?_
          refine H_getI rfl rfl rfl rfl ?_
          refine G_iconst rfl ?_
          refine G_iadd rfl ?_
          refine H_putI rfl rfl rfl rfl ?_
          refine G_aload_n rfl rfl ?_
          refine H_getI rfl rfl rfl rfl ?_
          exact H_ret rfl rfl ((by rw [u2_same, upd_same, u2_ne (show 24 ≠ 28 by decide), hn, nI_succ])) ((by rw [u2_ne (show 24 ≠ 28 by decide), hn, nI_succ]))
        · have h2 := Decidable.of_not_not h2
          rw [hn] at h2
          exact absurd ((nI_eq (show n < 2 ^ 31 by omega) (show 60 < 2 ^ 31 by decide)).mp h2) (by omega)
      · exact absurd h1 (by decide)
    · rw [if_neg h6, if_neg h6]
      refine EvM_mk [some (.ref 24), some (.int c)] rfl rfl rfl rfl rfl (trivial) ?_
      refine G_iload_n rfl rfl ?_
      refine G_bipush rfl ?_
      refine G_bipush rfl ?_
      refine H_callS (c1) rfl rfl rfl rfl rfl ?_
      refine G_if_ne rfl (fun h1 => ?_) (fun h1 => ?_)
      · skip
        refine G_aload_n rfl rfl ?_
        refine H_getI rfl rfl rfl rfl ?_
        refine G_bipush rfl ?_
        refine G_icmp_ne rfl (fun h2 => ?_) (fun h2 => ?_)
        · exact absurd (by rw [hn, show n = 60 by omega]; rfl) h2
        refine G_bipush rfl ?_
        exact H_ret rfl rfl (rfl) (rfl)
      · exact absurd h1 (by decide)
set_option maxRecDepth 100000 in
theorem mm_clear : EvM kM_clear [.ref 24] (mk S R) (some (.int (S 24 6))) (mk (u2 S 24 (upd (S 24) 6 0)) R) := by
  refine EvM_mk [some (.ref 24), none] rfl rfl rfl rfl rfl (trivial) ?_
  refine G_aload_n rfl rfl ?_
  refine H_getI rfl rfl rfl rfl ?_
  refine H_ist_2_1 rfl rfl ?_
  refine G_aload_n rfl rfl ?_
  refine G_iconst rfl ?_
  refine H_putI rfl rfl rfl rfl ?_
  refine G_iload_n rfl rfl ?_
  exact H_ret rfl rfl (rfl) (rfl)
set_option maxRecDepth 100000 in
theorem mm_why (w : Int32) : EvM kM_why [.ref 24, .int w] (mk S R) (some (.int (if w < 0 ∨ ¬ w < 3 then -1 else if S 24 14 = 0 then -4 else S 31 w.toNatClampNeg))) (mk S R) := by
  have c1 := ev_min S R w 0 2
  have hb : mIn w 0 2 = decide (¬ (w < 0 ∨ ¬ w < 3)) := by
    unfold mIn
    have : (¬ (2 : Int32) < w) ↔ w < 3 := by
      rw [Int32.lt_iff_toInt_lt, Int32.lt_iff_toInt_lt, show (2 : Int32).toInt = 2 by decide, show (3 : Int32).toInt = 3 by decide]; omega
    by_cases q1 : w < 0 <;> by_cases q2 : w < 3 <;> simp [q1, q2, this]
  rw [hb] at c1
  by_cases h : w < 0 ∨ ¬ w < 3
  · rw [if_pos h]
    rw [decide_eq_false (fun q => q h)] at c1
    refine EvM_mk [some (.ref 24), some (.int w)] rfl rfl rfl rfl rfl (trivial) ?_
    refine G_iload_n rfl rfl ?_
    refine G_iconst rfl ?_
    refine G_iconst rfl ?_
    refine H_callS (c1) rfl rfl rfl rfl rfl ?_
    refine G_if_ne rfl (fun h1 => ?_) (fun h1 => ?_)
    · exact absurd rfl h1
    refine G_iconst rfl ?_
    exact H_ret rfl rfl (rfl) (rfl)
  · rw [if_neg h]
    rw [decide_eq_true h] at c1
    have w0 : ¬ w < 0 := fun q => h (Or.inl q)
    have w3 : w < 3 := Decidable.byContradiction fun q => h (Or.inr q)
    obtain ⟨j, hj, rfl⟩ := lt_ix 3 (by decide) w0 (Int32.not_le.mpr w3)
    rw [nI_clamp (show j < 2 ^ 31 by omega)]
    by_cases h6 : S 24 14 = 0
    · rw [if_pos h6]
      refine EvM_mk [some (.ref 24), some (.int (nI j))] rfl rfl rfl rfl rfl (trivial) ?_
      refine G_iload_n rfl rfl ?_
      refine G_iconst rfl ?_
      refine G_iconst rfl ?_
      refine H_callS (c1) rfl rfl rfl rfl rfl ?_
      refine G_if_ne rfl (fun h1 => ?_) (fun h1 => ?_)
      · skip
        refine G_aload_n rfl rfl ?_
        refine H_getI rfl rfl rfl rfl ?_
        refine G_if_eq rfl (fun h3 => ?_) (fun h3 => ?_)
        · skip
          refine G_bipush rfl ?_
          exact H_ret rfl rfl (rfl) (rfl)
        · exact absurd h6 h3
      · exact absurd h1 (by decide)
    · rw [if_neg h6]
      refine EvM_mk [some (.ref 24), some (.int (nI j))] rfl rfl rfl rfl rfl (trivial) ?_
      refine G_iload_n rfl rfl ?_
      refine G_iconst rfl ?_
      refine G_iconst rfl ?_
      refine H_callS (c1) rfl rfl rfl rfl rfl ?_
      refine G_if_ne rfl (fun h1 => ?_) (fun h1 => ?_)
      · skip
        refine G_aload_n rfl rfl ?_
        refine H_getI rfl rfl rfl rfl ?_
        refine G_if_eq rfl (fun h3 => ?_) (fun h3 => ?_)
        · exact absurd h3 h6
        refine G_aload_n rfl rfl ?_
        refine H_getR rfl rfl rfl rfl rfl rfl ?_
        refine G_iload_n rfl rfl ?_
        refine H_iald rfl (rfl) (rfl) (hj) (rfl) ?_
        refine G_goto rfl ?_
        exact H_ret rfl rfl (rfl) (rfl)
      · exact absurd h1 (by decide)
set_option maxRecDepth 100000 in
theorem mm_undo0 (hn : S 24 2 = 0) : EvM kM_undo [.ref 24] (mk S R) (some (.int (-2))) (mk S R) := by
  refine EvM_mk [some (.ref 24)] rfl rfl rfl rfl rfl (trivial) ?_
  refine G_aload_n rfl rfl ?_
  refine H_getI rfl rfl rfl rfl ?_
  refine G_if_ne rfl (fun h => ?_) (fun h => ?_)
  · exact absurd hn h
  refine G_bipush rfl ?_
  exact H_ret rfl rfl (rfl) (rfl)
set_option maxRecDepth 100000 in
theorem mm_undo {n : Nat} (hn : S 24 2 = nI (n + 1)) (hn4 : n < 4) : EvM kM_undo [.ref 24] (mk S R) (some (.int (nI n))) (mk (u2 (u2 S 24 (upd (S 24) 2 (nI n))) 25 (cpA (S 26) (102 * n) (S 25) 0 102)) R) := by
  have ix : ∀ k : Nat, (102 : Int32) * nI k = nI (102 * k) := fun k => by rw [nI_mul']; rfl
  have c1 := ev_mcopies (u2 S 24 (upd (S 24) 2 (nI n))) R (q1 := 26) (q2 := 25) (n1 := 408) (n2 := 102) (A := 102 * n) (B := 0) (by decide) rfl rfl rfl rfl (by omega) (by decide)
  rw [u2_ne (show 26 ≠ 24 by decide), u2_ne (show 25 ≠ 24 by decide)] at c1
  refine EvM_mk [some (.ref 24)] rfl rfl rfl rfl rfl (trivial) ?_
  refine G_aload_n rfl rfl ?_
  refine H_getI rfl rfl rfl rfl ?_
  refine G_if_ne rfl (fun h => ?_) (fun h => ?_)
  · skip
    refine G_aload_n rfl rfl ?_
    refine G_dup rfl rfl ?_
    refine H_getI rfl rfl rfl rfl ?_
    refine G_iconst rfl ?_
    refine G_isub rfl ?_
    refine H_putI rfl rfl rfl rfl ?_
    refine G_aload_n rfl rfl ?_
    refine H_getR rfl rfl rfl rfl rfl rfl ?_
    refine G_bipush rfl ?_
    refine G_aload_n rfl rfl ?_
    refine H_getI rfl rfl rfl rfl ?_
    refine G_imul rfl ?_
    refine G_aload_n rfl rfl ?_
    refine H_getR rfl rfl rfl rfl rfl rfl ?_
    refine G_iconst rfl ?_
    rw [hn, nI_pred, u2_same, upd_same, ix]
    refine H_callSU (c1) rfl rfl rfl rfl rfl ?_
    refine G_aload_n rfl rfl ?_
    refine H_getI rfl rfl rfl rfl ?_
    exact H_ret rfl rfl ((by rw [u2_ne (show 24 ≠ 25 by decide), u2_same, upd_same])) (rfl)
  · have h := Decidable.of_not_not h
    rw [hn] at h
    exact absurd ((nI_0iff (by omega)).mp h) (by omega)
set_option maxRecDepth 100000 in
theorem mm_save : EvM kM_save [.ref 24] (mk S R) (some (.int (S 25 1))) (mk (u2 (u2 S 27 (cpA (S 25) 0 (S 27) 0 102)) 24 (upd (S 24) 4 1)) R) := by
  have c1 := ev_mcopies S R (q1 := 25) (q2 := 27) (n1 := 102) (n2 := 102) (A := 0) (B := 0) (by decide) rfl rfl rfl rfl (by decide) (by decide)
  refine EvM_mk [some (.ref 24)] rfl rfl rfl rfl rfl (trivial) ?_
  refine G_aload_n rfl rfl ?_
  refine H_getR rfl rfl rfl rfl rfl rfl ?_
  refine G_iconst rfl ?_
  refine G_aload_n rfl rfl ?_
  refine H_getR rfl rfl rfl rfl rfl rfl ?_
  refine G_iconst rfl ?_
  refine H_callSU (c1) rfl rfl rfl rfl rfl ?_
  refine G_aload_n rfl rfl ?_
  refine G_iconst rfl ?_
  refine H_putI rfl rfl rfl rfl ?_
  refine G_aload_n rfl rfl ?_
  refine H_getR rfl rfl rfl rfl rfl rfl ?_
  refine G_iconst rfl ?_
  refine H_iald rfl ((show (1 : Int32) = nI 1 from rfl)) (rfl) ((by decide)) (rfl) ?_
  exact H_ret rfl rfl ((by rw [u2_ne (show 25 ≠ 24 by decide), u2_ne (show 25 ≠ 27 by decide)])) ((by rw [u2_ne (show 24 ≠ 27 by decide)]))
set_option maxRecDepth 100000 in
theorem mm_restore0 (h0 : S 24 4 = 0) : EvM kM_restore [.ref 24] (mk S R) (some (.int (-2))) (mk S R) := by
  refine EvM_mk [some (.ref 24)] rfl rfl rfl rfl rfl (trivial) ?_
  refine G_aload_n rfl rfl ?_
  refine H_getI rfl rfl rfl rfl ?_
  refine G_if_ne rfl (fun h => ?_) (fun h => ?_)
  · exact absurd h0 h
  refine G_bipush rfl ?_
  exact H_ret rfl rfl (rfl) (rfl)
set_option maxRecDepth 100000 in
theorem mm_restore (h0 : S 24 4 ≠ 0) {n : Nat} (hn : S 24 2 = nI n) (hn4 : n ≤ 4) : ∃ S0, EvM kM_restore [.ref 24] (mk S R) (some (.int (S 27 1))) (mk (u2 S0 25 (cpA (S 27) 0 (S 25) 0 102)) R) ∧ MR S S0 n := by
  obtain ⟨S0, c1, mr⟩ := ev_mrecords S R hn hn4
  have c2 := ev_mcopies S0 R (q1 := 27) (q2 := 25) (n1 := 102) (n2 := 102) (A := 0) (B := 0) (by decide) rfl rfl rfl rfl (by decide) (by decide)
  rw [mr.1 27 (by decide) (by decide), mr.1 25 (by decide) (by decide)] at c2
  refine ⟨S0, ?_, mr⟩
  refine EvM_mk [some (.ref 24)] rfl rfl rfl rfl rfl (trivial) ?_
  refine G_aload_n rfl rfl ?_
  refine H_getI rfl rfl rfl rfl ?_
  refine G_if_ne rfl (fun h => ?_) (fun h => ?_)
  · skip
    refine G_aload_n rfl rfl ?_
    refine H_callU (c1) rfl rfl rfl rfl rfl rfl rfl rfl ?_
    refine G_aload_n rfl rfl ?_
    refine H_getR rfl rfl rfl rfl rfl rfl ?_
    refine G_iconst rfl ?_
    refine G_aload_n rfl rfl ?_
    refine H_getR rfl rfl rfl rfl rfl rfl ?_
    refine G_iconst rfl ?_
    refine H_callSU (c2) rfl rfl rfl rfl rfl ?_
    refine G_aload_n rfl rfl ?_
    refine H_getR rfl rfl rfl rfl rfl rfl ?_
    refine G_iconst rfl ?_
    refine H_iald rfl ((show (1 : Int32) = nI 1 from rfl)) (rfl) ((by decide)) (rfl) ?_
    exact H_ret rfl rfl ((by rw [u2_same]; rfl)) (rfl)
  · exact absurd (Decidable.of_not_not h) h0
end MD2
