/-! the document's own reckoning: deeds -/
def shP (f : Nat → Int32) (i : Nat) : Nat → Int32 := fun j => if j < i then f (j + 102) else f j
theorem shP_0 {f : Nat → Int32} : shP f 0 = f := by
  funext j
  unfold shP
  rw [if_neg (by omega)]
theorem shP_s {f : Nat → Int32} {i : Nat} : upd (shP f i) i (shP f i (i + 102)) = shP f (i + 1) := by
  funext j
  by_cases h : j = i
  · subst h
    rw [upd_same]
    unfold shP
    rw [if_neg (by omega), if_pos (by omega)]
  · rw [upd_ne h]
    unfold shP
    by_cases h2 : j < i
    · rw [if_pos h2, if_pos (by omega)]
    · rw [if_neg h2, if_neg (by omega)]
/-- a state is recorded: n were known -/
def MR (S S1 : Nat → Nat → Int32) (n : Nat) : Prop := (∀ i, i ≠ 24 → i ≠ 26 → S1 i = S i) ∧ (∀ j, j ≠ 2 → S1 24 j = S 24 j) ∧ S1 24 2 = nI (recN n + 1) ∧ (∀ j, j < 102 → S1 26 (102 * recN n + j) = S 25 j) ∧ ∀ k, k < recN n → ∀ j, j < 102 → S1 26 (102 * k + j) = S 26 (102 * (if n < 4 then k else k + 1) + j)
/-- a deed after a record: the table is another then -/
def MD (S S1 : Nat → Nat → Int32) (n : Nat) (row : Nat → Int32) (T : Nat) : Prop := ∃ S0, MR S S0 n ∧ (∀ i, i ≠ 25 → i ≠ 29 → i ≠ 30 → S1 i = S0 i) ∧ CR row T (S1 25)
section MDD
variable (S : Nat → Nat → Int32) (R : Nat → Nat) {row : Nat → Int32} {T : Nat} {π : Nat → Int32}
set_option maxRecDepth 100000 in
theorem ev_mrecords {n : Nat} (hn : S 24 2 = nI n) (hn4 : n ≤ 4) : ∃ S1, EvM kM_records [.ref 24] (mk S R) none (mk S1 R) ∧ MR S S1 n := by
  have ix : ∀ k : Nat, (102 : Int32) * nI k = nI (102 * k) := fun k => by rw [nI_mul']; rfl
  have tail : ∀ (S : Nat → Nat → Int32) (n : Nat) l1, S 24 2 = nI n → n < 4 → Gm kM_records 48 [some (.ref 24), l1] [] (S, PF R, 32) none (u2 (u2 S 26 (cpA (S 25) 0 (S 26) (102 * n) 102)) 24 (upd (S 24) 2 (nI (n + 1))), PF R, 32) := fun S n l1 hn h4 => by
    have c1 := ev_mcopies S R (q1 := 25) (q2 := 26) (n1 := 102) (n2 := 408) (A := 0) (B := 102 * n) (by decide) rfl rfl rfl rfl (by decide) (by omega)
    refine G_aload_n rfl rfl ?_
    refine H_getR rfl rfl rfl rfl rfl rfl ?_
    refine G_iconst rfl ?_
    refine G_aload_n rfl rfl ?_
    refine H_getR rfl rfl rfl rfl rfl rfl ?_
    refine G_bipush rfl ?_
    refine G_aload_n rfl rfl ?_
    refine H_getI rfl rfl rfl rfl ?_
    refine G_imul rfl ?_
    rw [hn, ix]
    refine H_callSU (c1) rfl rfl rfl rfl rfl ?_
    refine G_aload_n rfl rfl ?_
    refine G_dup rfl rfl ?_
    refine H_getI rfl rfl rfl rfl ?_
    refine G_iconst rfl ?_
    refine G_iadd rfl ?_
    refine H_putI rfl rfl rfl rfl ?_
    exact H_retv rfl rfl ((by rw [u2_ne (show 24 ≠ 26 by decide), hn, nI_succ]))
  by_cases h4 : n = 4
  · subst h4
    have e3 : nI 4 - 1 = nI 3 := by decide
    refine ⟨u2 (u2 (u2 (u2 S 26 (shP (S 26) 306)) 24 (upd (S 24) 2 (nI 3))) 26 (cpA (S 25) 0 (shP (S 26) 306) (102 * 3) 102)) 24 (upd (upd (S 24) 2 (nI 3)) 2 (nI 4)), ?_, ?_⟩
    · skip
      refine EvM_mk [some (.ref 24), none] rfl rfl rfl rfl rfl (trivial) ?_
      refine G_aload_n rfl rfl ?_
      refine H_getI rfl rfl rfl rfl ?_
      refine G_iconst rfl ?_
      refine G_icmp_ne rfl (fun h => ?_) (fun h => ?_)
      · exact absurd (by rw [hn]; rfl) h
      refine G_iconst rfl ?_
      refine H_ist_2_1 rfl rfl ?_
      have goal : Gm kM_records 10 [some (.ref 24), some (.int (nI 0))] [] (u2 S 26 (shP (S 26) 0), PF R, 32) none (u2 (u2 (u2 (u2 S 26 (shP (S 26) 306)) 24 (upd (S 24) 2 (nI 3))) 26 (cpA (S 25) 0 (shP (S 26) 306) (102 * 3) 102)) 24 (upd (upd (S 24) 2 (nI 3)) 2 (nI 4)), PF R, 32) := by
        refine down 306 (fun i => Gm kM_records 10 [some (.ref 24), some (.int (nI i))] [] (u2 S 26 (shP (S 26) i), PF R, 32) none (u2 (u2 (u2 (u2 S 26 (shP (S 26) 306)) 24 (upd (S 24) 2 (nI 3))) 26 (cpA (S 25) 0 (shP (S 26) 306) (102 * 3) 102)) 24 (upd (upd (S 24) 2 (nI 3)) 2 (nI 4)), PF R, 32)) ?_ (fun i hi ih => ?_)
        · have tl := tail (u2 (u2 S 26 (shP (S 26) 306)) 24 (upd (S 24) 2 (nI 3))) 3 (some (.int (nI 306))) (by rw [u2_same, upd_same]) (by decide)
          rw [u2_ne (show 25 ≠ 24 by decide), u2_ne (show 25 ≠ 26 by decide), u2_ne (show 26 ≠ 24 by decide), u2_same, u2_same] at tl
          refine G_iload_n rfl rfl ?_
          refine G_sipush rfl ?_
          refine G_icmp_ge rfl (fun h => ?_) (fun h => ?_)
          · skip
            refine G_aload_n rfl rfl ?_
            refine G_dup rfl rfl ?_
            refine H_getI rfl rfl rfl rfl ?_
            refine G_iconst rfl ?_
            refine G_isub rfl ?_
            refine H_putI rfl rfl rfl rfl ?_
            rw [u2_ne (show 24 ≠ 26 by decide), hn, e3]
            exact tl
          · exact absurd (by decide) h
        · skip
          refine G_iload_n rfl rfl ?_
          refine G_sipush rfl ?_
          refine G_icmp_ge rfl (fun h => ?_) (fun h => ?_)
          · exact absurd h (ge_no hi (by decide))
          refine G_aload_n rfl rfl ?_
          refine H_getR rfl rfl rfl rfl rfl rfl ?_
          refine G_iload_n rfl rfl ?_
          refine G_aload_n rfl rfl ?_
          refine H_getR rfl rfl rfl rfl rfl rfl ?_
          refine G_iload_n rfl rfl ?_
          refine G_bipush rfl ?_
          refine G_iadd rfl ?_
          refine H_iald rfl ((nI_add i 102)) (rfl) ((by omega)) (rfl) ?_
          refine H_iast rfl (rfl) (rfl) ((by omega)) (rfl) ?_
          refine H_inc_2_1 rfl rfl ?_
          refine G_goto rfl ?_
          rw [u2_same, u2_u2, shP_s]
          rw [nI_succ] at ih
          exact ih
      rw [shP_0, u2_self] at goal
      exact goal
    · refine ⟨fun i h1 h2 => by rw [u2_ne h1, u2_ne h2, u2_ne h1, u2_ne h2], fun j hj => by rw [u2_same, upd_ne hj, upd_ne hj], by rw [u2_same, upd_same]; rfl, fun j hj => ?_, fun k hk j hj => ?_⟩
      · rw [u2_ne (by decide), u2_same, show recN 4 = 3 from rfl]
        unfold cpA
        rw [if_pos (by omega), show 0 + (102 * 3 + j - 102 * 3) = j by omega]
      · have hk : k < 3 := hk
        rw [u2_ne (by decide), u2_same, if_neg (by decide)]
        unfold cpA shP
        rw [if_neg (by omega), if_pos (by omega), show 102 * k + j + 102 = 102 * (k + 1) + j by omega]
  · have h4 : n < 4 := by omega
    have eN : recN n = n := by unfold recN; rw [if_pos h4]
    refine ⟨u2 (u2 S 26 (cpA (S 25) 0 (S 26) (102 * n) 102)) 24 (upd (S 24) 2 (nI (n + 1))), ?_, ?_⟩
    · skip
      refine EvM_mk [some (.ref 24), none] rfl rfl rfl rfl rfl (trivial) ?_
      refine G_aload_n rfl rfl ?_
      refine H_getI rfl rfl rfl rfl ?_
      refine G_iconst rfl ?_
      refine G_icmp_ne rfl (fun h => ?_) (fun h => ?_)
      · exact tail S n none hn h4
      · have h := Decidable.of_not_not h
        rw [hn] at h
        exact absurd ((nI_eq (show n < 2 ^ 31 by omega) (show 4 < 2 ^ 31 by decide)).mp h) (by omega)
    · refine ⟨fun i h1 h2 => by rw [u2_ne h1, u2_ne h2], fun j hj => by rw [u2_same, upd_ne hj], by rw [u2_same, upd_same, eN], fun j hj => ?_, fun k hk j hj => ?_⟩
      · rw [u2_ne (by decide), u2_same, eN]
        unfold cpA
        rw [if_pos (by omega), show 0 + (102 * n + j - 102 * n) = j by omega]
      · rw [eN] at hk
        rw [u2_ne (by decide), u2_same, if_pos h4]
        unfold cpA
        rw [if_neg (by omega)]
theorem CR_tape {s : Nat → Int32} (h : CR row T s) (h8 : T < 8) : CR (upd row 96 (nI (T + 1))) (T + 1) (upd s 0 (nI (T + 1))) := by
  obtain ⟨h1, h2, h3, h4, h5, h6, h7, h8', h9⟩ := h
  have e : ∀ i, i ≠ 96 → hs (upd row 96 (nI (T + 1))) i = hs row i := fun i hi => by rw [hs_up2, if_neg hi]
  refine ⟨⟨upd_same, by omega, fun j q1 q2 => by rw [upd_ne (by omega)]; exact h1.2.2 j (by omega) q2⟩, fun i hi hh => ?_, upd_same, ?_, h5, h6, h7, h8', fun i hi => ?_⟩
  · rw [e i (by omega)] at hh
    rw [upd_ne (by omega)]
    exact h2 i hi hh
  · rw [upd_ne (by decide), h4, cnt_congr (fun i hi => e i (by omega))]
  · rw [upd_ne (by omega), upd_ne (by omega)]
    exact h9 i hi
set_option maxRecDepth 100000 in
theorem mm_tape0 (hC : CR row T (S 25)) (h8 : ¬ T < 8) : EvM kM_tape [.ref 24] (mk S R) (some (.int (-3))) (mk S R) := by
  have := hC.1.2.1
  refine EvM_mk [some (.ref 24)] rfl rfl rfl rfl rfl (trivial) ?_
  refine G_aload_n rfl rfl ?_
  refine H_getR rfl rfl rfl rfl rfl rfl ?_
  refine G_iconst rfl ?_
  refine H_iald rfl (rfl) (rfl) ((by decide)) (rfl) ?_
  refine G_bipush rfl ?_
  refine G_icmp_ne rfl (fun h => ?_) (fun h => ?_)
  · exact absurd (by rw [hC.2.2.1, show T = 8 by omega]; decide) h
  refine G_bipush rfl ?_
  exact H_ret rfl rfl (rfl) (rfl)
set_option maxRecDepth 100000 in
theorem mm_tape (hC : CR row T (S 25)) {n : Nat} (hn : S 24 2 = nI n) (hn4 : n ≤ 4) (h8 : T < 8) : ∃ S1, EvM kM_tape [.ref 24] (mk S R) (some (.int (nI T))) (mk S1 R) ∧ MD S S1 n (upd row 96 (nI (T + 1))) (T + 1) := by
  obtain ⟨S0, c1, mr⟩ := ev_mrecords S R hn hn4
  have e25 : S0 25 = S 25 := mr.1 25 (by decide) (by decide)
  have e0 : S0 25 0 = nI T := by rw [e25]; exact hC.2.2.1
  refine ⟨u2 S0 25 (upd (S 25) 0 (nI (T + 1))), ?_, S0, mr, fun i h1 _ _ => u2_ne h1, by rw [u2_same]; exact CR_tape hC h8⟩
  refine EvM_mk [some (.ref 24)] rfl rfl rfl rfl rfl (trivial) ?_
  refine G_aload_n rfl rfl ?_
  refine H_getR rfl rfl rfl rfl rfl rfl ?_
  refine G_iconst rfl ?_
  refine H_iald rfl (rfl) (rfl) ((by decide)) (rfl) ?_
  refine G_bipush rfl ?_
  refine G_icmp_ne rfl (fun h => ?_) (fun h => ?_)
  · skip
    refine G_aload_n rfl rfl ?_
    refine H_callU (c1) rfl rfl rfl rfl rfl rfl rfl rfl ?_
    refine G_aload_n rfl rfl ?_
    refine H_getR rfl rfl rfl rfl rfl rfl ?_
    refine G_iconst rfl ?_
    refine G_dup2 rfl rfl rfl ?_
    refine H_iald rfl (rfl) (rfl) ((by decide)) (rfl) ?_
    rw [e0]
    refine G_iconst rfl ?_
    refine G_iadd rfl ?_
    refine H_iast rfl (rfl) (rfl) ((by decide)) (rfl) ?_
    refine G_aload_n rfl rfl ?_
    refine H_getR rfl rfl rfl rfl rfl rfl ?_
    refine G_iconst rfl ?_
    refine H_iald rfl (rfl) (rfl) ((by decide)) (rfl) ?_
    rw [u2_same, upd_same]
    refine G_iconst rfl ?_
    refine G_isub rfl ?_
    exact H_ret rfl rfl ((by grind)) ((by rw [e25, nI_succ]))
  · have h := Decidable.of_not_not h
    rw [hC.2.2.1] at h
    exact absurd ((nI_eq (show T < 2 ^ 31 by omega) (show 8 < 2 ^ 31 by decide)).mp h) (by omega)
end MDD
