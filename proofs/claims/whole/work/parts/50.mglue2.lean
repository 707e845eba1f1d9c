/-! the document's own reckoning: deeds, part 9: glue -/
section MD9
variable (S : Nat → Nat → Int32) (R : Nat → Nat) {row : Nat → Int32} {T : Nat} {π : Nat → Int32}
set_option maxRecDepth 100000 in
theorem ev_mgoGlue (hC : CR row T (S 25)) (hπ : Pot row π) {a b : Nat} (ha : a < T) (hb : b < T) (hab : a ≠ b) : ∃ S1 T', EvM kM_goGlue [.ref 24, .int (nI a), .int (nI b)] (mk S R) (some (.int (glA row π a b))) (mk S1 R) ∧ (∀ i, i ≠ 25 → i ≠ 29 → i ≠ 30 → S1 i = S i) ∧ CR (glR row π a b) T' (S1 25) := by
  have hT8 := hC.1.2.1
  obtain ⟨S0, c1, f0, ms⟩ := ev_mspreads S R hC.cs (a := 12 + a) (by omega)
  have hC0 : CR row T (S0 25) := by rw [f0 25 (by decide) (by decide)]; exact hC
  have hm := ms.1 (12 + b) (by omega)
  have exa : (12 : Int32) + nI a = nI (12 + a) := nI_add 12 a
  have exb : (12 : Int32) + nI b = nI (12 + b) := nI_add 12 b
  rw [← nI_add] at c1
  unfold glA glR
  cases hc : cB row (12 + a) (12 + b) with
  | false =>
    rw [hc] at hm
    rw [cond_false, cond_false]
    refine ⟨u2 S0 25 (upd (S0 25) 3 (S0 25 3 + 1)), T, ?_, fun i h1 h2 h3 => by rw [u2_ne h1]; exact f0 i h2 h3, by rw [u2_same]; exact CR_ref S0 hC0⟩
    refine EvM_mk [some (.ref 24), some (.int (nI a)), some (.int (nI b)), none, none, none] rfl rfl rfl rfl rfl (trivial) ?_
    refine G_aload_n rfl rfl ?_
    refine G_bipush rfl ?_
    refine G_iload_n rfl rfl ?_
    refine G_iadd rfl ?_
    refine H_callU (c1) rfl rfl rfl rfl rfl rfl rfl rfl ?_
    refine G_aload_n rfl rfl ?_
    refine H_getR rfl rfl rfl rfl rfl rfl ?_
    refine G_bipush rfl ?_
    refine G_iload_n rfl rfl ?_
    refine G_iadd rfl ?_
    refine H_bald rfl (exb) (rfl) ((by omega)) (rfl) ?_
    refine G_if_ne rfl (fun h => ?_) (fun h => ?_)
    · exact absurd hm h
    refine G_aload_n rfl rfl ?_
    refine G_iconst rfl ?_
    refine H_callV (ev_mrefuses S0 R 5) rfl rfl rfl rfl rfl rfl rfl rfl ?_
    exact H_ret rfl rfl (rfl) (rfl)
  | true =>
    have hA : S0 30 (12 + b) = glB row π a b := (ms.2 (12 + b) (by omega) hc).1 π hπ
    rw [hc] at hm
    rw [cond_true, cond_true]
    have hgs := gt_stay (row := row) (π := π) (a := a) (b := b) (by omega) (by omega) hC.2.1 hπ
    have c2 := ev_mgets S0 R hC0.cs (a := a) (b := b) (by omega) (by omega) (glB row π a b)
    generalize glB row π a b = dx at *
    by_cases h0 : cnt (stayB row b dx) 12 = 0
    · have hg0 := hgs.mp h0
      rw [if_pos hg0] at c2
      rw [if_pos h0, if_pos h0, cmN_c hab 12 (Nat.le_refl 12)]
      have hle := cnt_le (cmB row b a) 12
      have goal := down 12 (fun i => ∀ S : Nat → Nat → Int32, CR (cmR row b a dx i) T (S 25) → ∃ S1, Gm kM_goGlue 62 [some (.ref 24), some (.int (nI a)), some (.int (nI b)), some (.int dx), some (.int (10 + nI (cnt (cmB row b a) 12))), some (.int (nI i))] [] (S, PF R, 32) (some (.int (10 + nI (cnt (cmB row b a) 12)))) (S1, PF R, 32) ∧ (∀ i, i ≠ 25 → S1 i = S i) ∧ CR (glX row a b dx) (T - 1) (S1 25)) (fun S hC1 => by
        obtain ⟨S1, c3, f1, hC2⟩ := ev_mdropsTape S R hC1 (a := b) hb
        have hC3 := CR_tally (k := 3) hC2 (by decide)
        refine ⟨u2 S1 25 (upd (S1 25) 5 (S1 25 5 + 1)), ?_, fun i h => by rw [u2_ne h]; exact f1 i h, by rw [u2_same]; exact hC3⟩
        have e5 : (5 : Int32) = nI 5 := rfl
        refine G_iload rfl rfl ?_
        refine G_bipush rfl ?_
        refine G_icmp_ge rfl (fun h => ?_) (fun h => ?_)
        · skip
          refine G_aload_n rfl rfl ?_
          refine G_iload_n rfl rfl ?_
          refine H_callU (c3) rfl rfl rfl rfl rfl rfl rfl rfl ?_
          refine G_aload_n rfl rfl ?_
          refine H_getR rfl rfl rfl rfl rfl rfl ?_
          refine G_iconst rfl ?_
          refine G_dup2 rfl rfl rfl ?_
          refine H_iald rfl (e5) (rfl) ((by decide)) (rfl) ?_
          refine G_iconst rfl ?_
          refine G_iadd rfl ?_
          refine H_iast rfl (e5) (rfl) ((by decide)) (rfl) ?_
          refine G_iload rfl rfl ?_
          exact H_ret rfl rfl (rfl) (rfl)
        · exact absurd (by decide) h) (fun i hi ih S hC1 => by
        have hP := cmP_B (row := row) (a := a) (b := b) (dx := dx) hab hi
        have eb : cmR row b a dx i (b * 12 + i) = row (b * 12 + i) := cmR_at i _ (by omega) (by omega)
        have hst := cnt_0.mp h0 i hi
        have c3 := ev_mhas S R hC1.cs (t := b) (p := i) (by omega) hi
        have c4 := ev_mhas S R hC1.cs (t := a) (p := i) (by omega) hi
        unfold stayB at hst
        rw [show hs row (b * 12 + i) = hs (cmR row b a dx i) (b * 12 + i) by unfold hs; rw [eb], ← eb] at hst
        rw [show cmR row b a dx (i + 1) = cmS (cmR row b a dx i) b a dx i from rfl] at ih
        generalize cmR row b a dx i = X at *
        have no : cmP X b a i = false → ∃ S1, Gm kM_goGlue 105 [some (.ref 24), some (.int (nI a)), some (.int (nI b)), some (.int dx), some (.int (10 + nI (cnt (cmB row b a) 12))), some (.int (nI i))] [] (S, PF R, 32) (some (.int (10 + nI (cnt (cmB row b a) 12)))) (S1, PF R, 32) ∧ (∀ i, i ≠ 25 → S1 i = S i) ∧ CR (glX row a b dx) (T - 1) (S1 25) := fun e => by
          obtain ⟨S1, g, f1, h1⟩ := ih S (by rw [cmS, e, cond_false]; exact hC1)
          refine ⟨S1, ?_, f1, h1⟩
          rw [nI_succ] at g
          refine H_inc_6_5 rfl rfl ?_
          refine G_goto rfl ?_
          exact g
        cases hh : hs X (b * 12 + i) with
        | false =>
          rw [hh] at c3
          obtain ⟨S1, g, f1, h1⟩ := no (by rw [cmP, hh]; rfl)
          refine ⟨S1, ?_, f1, h1⟩
          refine G_iload rfl rfl ?_
          refine G_bipush rfl ?_
          refine G_icmp_ge rfl (fun h => ?_) (fun h => ?_)
          · exact absurd h (ge_no hi (by decide))
          refine G_aload_n rfl rfl ?_
          refine G_iload_n rfl rfl ?_
          refine G_iload rfl rfl ?_
          refine H_callV (c3) rfl rfl rfl rfl rfl rfl rfl rfl ?_
          refine G_if_eq rfl (fun h2 => ?_) (fun h2 => ?_)
          · exact g
          · exact absurd rfl h2
        | true =>
          rw [hh] at c3
          cases ht : hs X (a * 12 + i) with
          | true =>
            rw [ht] at c4
            obtain ⟨S1, g, f1, h1⟩ := no (by rw [cmP, hh, ht]; rfl)
            refine ⟨S1, ?_, f1, h1⟩
            refine G_iload rfl rfl ?_
            refine G_bipush rfl ?_
            refine G_icmp_ge rfl (fun h => ?_) (fun h => ?_)
            · exact absurd h (ge_no hi (by decide))
            refine G_aload_n rfl rfl ?_
            refine G_iload_n rfl rfl ?_
            refine G_iload rfl rfl ?_
            refine H_callV (c3) rfl rfl rfl rfl rfl rfl rfl rfl ?_
            refine G_if_eq rfl (fun h2 => ?_) (fun h2 => ?_)
            · exact absurd h2 (by decide)
            refine G_aload_n rfl rfl ?_
            refine G_iload_n rfl rfl ?_
            refine G_iload rfl rfl ?_
            refine H_callV (c4) rfl rfl rfl rfl rfl rfl rfl rfl ?_
            refine G_if_ne rfl (fun h3 => ?_) (fun h3 => ?_)
            · exact g
            · exact absurd h3 (by decide)
          | false =>
            rw [ht] at c4
            have em : cmP X b a i = true := by rw [cmP, hh, ht]; rfl
            rw [hh, Bool.true_and, Bool.not_eq_false'] at hst
            have c5 := ev_mof S R (t := b) (p := i) (by omega) hi
            rw [CR_of hC1.cs (by omega) hh] at c5
            obtain ⟨s, c6, hC2⟩ := ev_mlays S R hC1 (t := a) (p := i) ha hi hst
            obtain ⟨S1, g, f1, h1⟩ := ih (u2 S 25 s) (by rw [cmS, em, cond_true, u2_same]; exact hC2)
            refine ⟨S1, ?_, fun i h => (f1 i h).trans (u2_ne h), h1⟩
            rw [nI_succ] at g
            refine G_iload rfl rfl ?_
            refine G_bipush rfl ?_
            refine G_icmp_ge rfl (fun h => ?_) (fun h => ?_)
            · exact absurd h (ge_no hi (by decide))
            refine G_aload_n rfl rfl ?_
            refine G_iload_n rfl rfl ?_
            refine G_iload rfl rfl ?_
            refine H_callV (c3) rfl rfl rfl rfl rfl rfl rfl rfl ?_
            refine G_if_eq rfl (fun h2 => ?_) (fun h2 => ?_)
            · exact absurd h2 (by decide)
            refine G_aload_n rfl rfl ?_
            refine G_iload_n rfl rfl ?_
            refine G_iload rfl rfl ?_
            refine H_callV (c4) rfl rfl rfl rfl rfl rfl rfl rfl ?_
            refine G_if_ne rfl (fun h3 => ?_) (fun h3 => ?_)
            · exact absurd rfl h3
            refine G_aload_n rfl rfl ?_
            refine G_iload_n rfl rfl ?_
            refine G_iload rfl rfl ?_
            refine G_aload_n rfl rfl ?_
            refine G_iload_n rfl rfl ?_
            refine G_iload rfl rfl ?_
            refine H_callV (c5) rfl rfl rfl rfl rfl rfl rfl rfl ?_
            refine G_iload_n rfl rfl ?_
            refine G_iadd rfl ?_
            refine H_callU (c6) rfl rfl rfl rfl rfl rfl rfl rfl ?_
            refine H_inc_6_5 rfl rfl ?_
            refine G_goto rfl ?_
            exact g)
      obtain ⟨S1, g, f1, h1⟩ := goal S0 hC0
      refine ⟨S1, T - 1, ?_, fun i q1 q2 q3 => (f1 i q1).trans (f0 i q2 q3), h1⟩
      refine EvM_mk [some (.ref 24), some (.int (nI a)), some (.int (nI b)), none, none, none] rfl rfl rfl rfl rfl (trivial) ?_
      refine G_aload_n rfl rfl ?_
      refine G_bipush rfl ?_
      refine G_iload_n rfl rfl ?_
      refine G_iadd rfl ?_
      refine H_callU (c1) rfl rfl rfl rfl rfl rfl rfl rfl ?_
      refine G_aload_n rfl rfl ?_
      refine H_getR rfl rfl rfl rfl rfl rfl ?_
      refine G_bipush rfl ?_
      refine G_iload_n rfl rfl ?_
      refine G_iadd rfl ?_
      refine H_bald rfl (exb) (rfl) ((by omega)) (rfl) ?_
      refine G_if_ne rfl (fun h => ?_) (fun h => ?_)
      · skip
        refine G_aload_n rfl rfl ?_
        refine H_getR rfl rfl rfl rfl rfl rfl ?_
        refine G_bipush rfl ?_
        refine G_iload_n rfl rfl ?_
        refine G_iadd rfl ?_
        refine H_iald rfl (exb) (rfl) ((by omega)) (rfl) ?_
        rw [hA]
        refine H_ist_6_3 rfl rfl ?_
        refine G_aload_n rfl rfl ?_
        refine G_iload_n rfl rfl ?_
        refine G_iload_n rfl rfl ?_
        refine G_iload_n rfl rfl ?_
        refine H_callV (c2) rfl rfl rfl rfl rfl rfl rfl rfl ?_
        refine H_ist_6_4 rfl rfl ?_
        refine G_iload rfl rfl ?_
        refine G_bipush rfl ?_
        refine G_icmp_ge rfl (fun h2 => ?_) (fun h2 => ?_)
        · skip
          refine G_iconst rfl ?_
          refine H_ist_6_5 rfl rfl ?_
          exact g
        · exact absurd (show nI 10 ≤ nI 10 + nI (cnt (cmB row b a) 12) by rw [nI_add]; exact nI_le (by omega) (by omega)) h2
      · exact absurd h (by rw [hm]; decide)
    · have hg0 : ¬ cnt (gtB row b a dx) 12 = 0 := fun z => h0 (hgs.mpr z)
      rw [if_neg hg0] at c2
      rw [if_neg h0, if_neg h0]
      refine ⟨u2 S0 25 (upd (S0 25) 3 (S0 25 3 + 1)), T, ?_, fun i h1 h2 h3 => by rw [u2_ne h1]; exact f0 i h2 h3, by rw [u2_same]; exact CR_ref S0 hC0⟩
      refine EvM_mk [some (.ref 24), some (.int (nI a)), some (.int (nI b)), none, none, none] rfl rfl rfl rfl rfl (trivial) ?_
      refine G_aload_n rfl rfl ?_
      refine G_bipush rfl ?_
      refine G_iload_n rfl rfl ?_
      refine G_iadd rfl ?_
      refine H_callU (c1) rfl rfl rfl rfl rfl rfl rfl rfl ?_
      refine G_aload_n rfl rfl ?_
      refine H_getR rfl rfl rfl rfl rfl rfl ?_
      refine G_bipush rfl ?_
      refine G_iload_n rfl rfl ?_
      refine G_iadd rfl ?_
      refine H_bald rfl (exb) (rfl) ((by omega)) (rfl) ?_
      refine G_if_ne rfl (fun h => ?_) (fun h => ?_)
      · skip
        refine G_aload_n rfl rfl ?_
        refine H_getR rfl rfl rfl rfl rfl rfl ?_
        refine G_bipush rfl ?_
        refine G_iload_n rfl rfl ?_
        refine G_iadd rfl ?_
        refine H_iald rfl (exb) (rfl) ((by omega)) (rfl) ?_
        rw [hA]
        refine H_ist_6_3 rfl rfl ?_
        refine G_aload_n rfl rfl ?_
        refine G_iload_n rfl rfl ?_
        refine G_iload_n rfl rfl ?_
        refine G_iload_n rfl rfl ?_
        refine H_callV (c2) rfl rfl rfl rfl rfl rfl rfl rfl ?_
        refine H_ist_6_4 rfl rfl ?_
        refine G_iload rfl rfl ?_
        refine G_bipush rfl ?_
        refine G_icmp_ge rfl (fun h2 => ?_) (fun h2 => ?_)
        · exact absurd h2 (by decide)
        refine G_aload_n rfl rfl ?_
        refine G_iload rfl rfl ?_
        refine H_callV (ev_mrefuses S0 R 4) rfl rfl rfl rfl rfl rfl rfl rfl ?_
        exact H_ret rfl rfl (rfl) (rfl)
      · exact absurd h (by rw [hm]; decide)
end MD9
