/-! the document's own reckoning: deeds, part 4: shift, drop -/
section MD4
variable (S : Nat → Nat → Int32) (R : Nat → Nat) {row : Nat → Int32} {T : Nat} {π : Nat → Int32}
set_option maxRecDepth 100000 in
theorem ev_mgoShift (hC : CR row T (S 25)) {a : Nat} (ha : a < T) (x : Int32) : ∃ S1, EvM kM_goShift [.ref 24, .int (nI a), .int x] (mk S R) (some (.int (if cnt (stayB row a x) 12 = 0 then 10 + nI (tOf (shR row a x 12) (nI a) 12) else 4))) (mk S1 R) ∧ (∀ i, i ≠ 25 → S1 i = S i) ∧ CR (if cnt (stayB row a x) 12 = 0 then shR row a x 12 else upd row 98 (row 98 + 1)) T (S1 25) := by
  have hT8 := hC.1.2.1
  have c1 := ev_mcanShift S R hC.cs (a := a) (by omega) x
  by_cases h0 : cnt (stayB row a x) 12 = 0
  · rw [if_pos h0, if_pos h0]
    rw [decide_eq_true h0] at c1
    have goal := down 12 (fun i => ∀ S : Nat → Nat → Int32, CR (shR row a x i) T (S 25) → ∃ S1, Gm kM_goShift 17 [some (.ref 24), some (.int (nI a)), some (.int x), some (.int (nI i))] [] (S, PF R, 32) (some (.int (10 + nI (tOf (shR row a x 12) (nI a) 12)))) (S1, PF R, 32) ∧ (∀ i, i ≠ 25 → S1 i = S i) ∧ CR (shR row a x 12) T (S1 25)) (fun S hC => by
      refine ⟨S, ?_, fun _ _ => rfl, hC⟩
      have cm := ev_mmany S R hC (t := a) (by omega)
      refine G_iload_n rfl rfl ?_
      refine G_bipush rfl ?_
      refine G_icmp_ge rfl (fun h => ?_) (fun h => ?_)
      · skip
        refine G_bipush rfl ?_
        refine G_aload_n rfl rfl ?_
        refine G_iload_n rfl rfl ?_
        refine H_callV (cm) rfl rfl rfl rfl rfl rfl rfl rfl ?_
        refine G_iadd rfl ?_
        exact H_ret rfl rfl (rfl) (rfl)
      · exact absurd (by decide) h) (fun i hi ih S hC => by
      have eX : shR row a x i (a * 12 + i) = row (a * 12 + i) := shR_ge row a x i _ (by omega)
      have hst := cnt_0.mp h0 i hi
      have c2 := ev_mhas S R hC.cs (t := a) (p := i) (by omega) hi
      rw [show shR row a x (i + 1) = shS (shR row a x i) a x i from rfl] at ih
      unfold stayB at hst
      rw [show hs row (a * 12 + i) = hs (shR row a x i) (a * 12 + i) by unfold hs; rw [eX], ← eX] at hst
      generalize shR row a x i = X at *
      cases hh : hs X (a * 12 + i) with
      | false =>
        rw [hh] at c2
        obtain ⟨S1, g, f1, h1⟩ := ih S (by rw [shS, hh, cond_false]; exact hC)
        refine ⟨S1, ?_, f1, h1⟩
        rw [nI_succ] at g
        refine G_iload_n rfl rfl ?_
        refine G_bipush rfl ?_
        refine G_icmp_ge rfl (fun h => ?_) (fun h => ?_)
        · exact absurd h (ge_no hi (by decide))
        refine G_aload_n rfl rfl ?_
        refine G_iload_n rfl rfl ?_
        refine G_iload_n rfl rfl ?_
        refine H_callV (c2) rfl rfl rfl rfl rfl rfl rfl rfl ?_
        refine G_if_eq rfl (fun h2 => ?_) (fun h2 => ?_)
        · skip
          refine H_inc_4_3 rfl rfl ?_
          refine G_goto rfl ?_
          exact g
        · exact absurd rfl h2
      | true =>
        rw [hh] at c2 hst
        rw [Bool.true_and, Bool.not_eq_false'] at hst
        have c3 := ev_mof S R (t := a) (p := i) (by omega) hi
        rw [CR_of hC.cs (by omega) hh] at c3
        obtain ⟨s, c4, hC1⟩ := ev_mlays S R hC ha hi hst
        obtain ⟨S1, g, f1, h1⟩ := ih (u2 S 25 s) (by rw [shS, hh, cond_true, u2_same]; exact hC1)
        refine ⟨S1, ?_, fun i h => (f1 i h).trans (u2_ne h), h1⟩
        rw [nI_succ] at g
        refine G_iload_n rfl rfl ?_
        refine G_bipush rfl ?_
        refine G_icmp_ge rfl (fun h => ?_) (fun h => ?_)
        · exact absurd h (ge_no hi (by decide))
        refine G_aload_n rfl rfl ?_
        refine G_iload_n rfl rfl ?_
        refine G_iload_n rfl rfl ?_
        refine H_callV (c2) rfl rfl rfl rfl rfl rfl rfl rfl ?_
        refine G_if_eq rfl (fun h2 => ?_) (fun h2 => ?_)
        · exact absurd h2 (by decide)
        refine G_aload_n rfl rfl ?_
        refine G_iload_n rfl rfl ?_
        refine G_iload_n rfl rfl ?_
        refine G_aload_n rfl rfl ?_
        refine G_iload_n rfl rfl ?_
        refine G_iload_n rfl rfl ?_
        refine H_callV (c3) rfl rfl rfl rfl rfl rfl rfl rfl ?_
        refine G_iload_n rfl rfl ?_
        refine G_iadd rfl ?_
        refine H_callU (c4) rfl rfl rfl rfl rfl rfl rfl rfl ?_
        refine H_inc_4_3 rfl rfl ?_
        refine G_goto rfl ?_
        exact g)
    obtain ⟨S1, g, f1, h1⟩ := goal S hC
    refine ⟨S1, ?_, f1, h1⟩
    refine EvM_mk [some (.ref 24), some (.int (nI a)), some (.int x), none] rfl rfl rfl rfl rfl (trivial) ?_
    refine G_aload_n rfl rfl ?_
    refine G_iload_n rfl rfl ?_
    refine G_iload_n rfl rfl ?_
    refine H_callV (c1) rfl rfl rfl rfl rfl rfl rfl rfl ?_
    refine G_if_ne rfl (fun h => ?_) (fun h => ?_)
    · skip
      refine G_iconst rfl ?_
      refine H_ist_4_3 rfl rfl ?_
      exact g
    · exact absurd h (by decide)
  · rw [if_neg h0, if_neg h0]
    rw [decide_eq_false h0] at c1
    refine ⟨u2 S 25 (upd (S 25) 3 (S 25 3 + 1)), ?_, fun i h => u2_ne h, by rw [u2_same]; exact CR_ref S hC⟩
    refine EvM_mk [some (.ref 24), some (.int (nI a)), some (.int x), none] rfl rfl rfl rfl rfl (trivial) ?_
    refine G_aload_n rfl rfl ?_
    refine G_iload_n rfl rfl ?_
    refine G_iload_n rfl rfl ?_
    refine H_callV (c1) rfl rfl rfl rfl rfl rfl rfl rfl ?_
    refine G_if_ne rfl (fun h => ?_) (fun h => ?_)
    · exact absurd rfl h
    refine G_aload_n rfl rfl ?_
    refine G_iconst rfl ?_
    refine H_callV (ev_mrefuses S R 4) rfl rfl rfl rfl rfl rfl rfl rfl ?_
    exact H_ret rfl rfl (rfl) (rfl)
set_option maxRecDepth 100000 in
theorem mm_shift0 (hC : CR row T (S 25)) {t x : Int32} (h : (tIs row t && isNb x) = false) : EvM kM_shift [.ref 24, .int t, .int x] (mk S R) (some (.int (-1))) (mk S R) := by
  have c1 := ev_misTape S R hC.cs t
  have c2 := ev_misNumber S R x
  refine EvM_mk [some (.ref 24), some (.int t), some (.int x)] rfl rfl rfl rfl rfl (trivial) ?_
  refine G_aload_n rfl rfl ?_
  refine G_iload_n rfl rfl ?_
  refine H_callV (c1) rfl rfl rfl rfl rfl rfl rfl rfl ?_
  refine G_if_eq rfl (fun h1 => ?_) (fun h1 => ?_)
  · skip
    refine G_iconst rfl ?_
    exact H_ret rfl rfl (rfl) (rfl)
  rw [b2i_n0.mp h1, Bool.true_and] at h
  rw [h] at c2
  refine G_iload_n rfl rfl ?_
  refine H_callS (c2) rfl rfl rfl rfl rfl ?_
  refine G_if_ne rfl (fun h2 => ?_) (fun h2 => ?_)
  · exact absurd rfl h2
  refine G_iconst rfl ?_
  exact H_ret rfl rfl (rfl) (rfl)
set_option maxRecDepth 100000 in
theorem mm_shift (hC : CR row T (S 25)) {n a : Nat} (hn : S 24 2 = nI n) (hn4 : n ≤ 4) (ha : a < T) {x : Int32} (hx : isNb x = true) : ∃ S1, EvM kM_shift [.ref 24, .int (nI a), .int x] (mk S R) (some (.int (if cnt (stayB row a x) 12 = 0 then 10 + nI (tOf (shR row a x 12) (nI a) 12) else 4))) (mk S1 R) ∧ MD S S1 n (if cnt (stayB row a x) 12 = 0 then shR row a x 12 else upd row 98 (row 98 + 1)) T := by
  have hT8 := hC.1.2.1
  have c1 := ev_misTape S R hC.cs (nI a)
  rw [tIs_nI hC.1.1 hT8 ha] at c1
  have c2 := ev_misNumber S R x
  rw [hx] at c2
  obtain ⟨S0, c3, mr⟩ := ev_mrecords S R hn hn4
  obtain ⟨S1, c4, f1, h1⟩ := ev_mgoShift S0 R (row := row) (T := T) (by rw [mr.1 25 (by decide) (by decide)]; exact hC) ha x
  refine ⟨S1, ?_, S0, mr, fun i h _ _ => f1 i h, h1⟩
  refine EvM_mk [some (.ref 24), some (.int (nI a)), some (.int x)] rfl rfl rfl rfl rfl (trivial) ?_
  refine G_aload_n rfl rfl ?_
  refine G_iload_n rfl rfl ?_
  refine H_callV (c1) rfl rfl rfl rfl rfl rfl rfl rfl ?_
  refine G_if_eq rfl (fun h1 => ?_) (fun h1 => ?_)
  · exact absurd h1 (by decide)
  refine G_iload_n rfl rfl ?_
  refine H_callS (c2) rfl rfl rfl rfl rfl ?_
  refine G_if_ne rfl (fun h2 => ?_) (fun h2 => ?_)
  · skip
    refine G_aload_n rfl rfl ?_
    refine H_callU (c3) rfl rfl rfl rfl rfl rfl rfl rfl ?_
    refine G_aload_n rfl rfl ?_
    refine G_iload_n rfl rfl ?_
    refine G_iload_n rfl rfl ?_
    refine H_callV (c4) rfl rfl rfl rfl rfl rfl rfl rfl ?_
    exact H_ret rfl rfl (rfl) (rfl)
  · exact absurd h2 (by decide)
end MD4
