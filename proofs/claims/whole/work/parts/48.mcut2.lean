/-! the document's own reckoning: deeds, part 7: cut -/
theorem CR_cut {row : Nat → Int32} {T : Nat} {s : Nat → Int32} (h : CR row T s) (h8 : T < 8) : CR (ctR row T) (T + 1) (upd (upd s 0 (s 0 + 1)) 4 (s 4 + 1)) := by
  have h1 := CR_tally (k := 2) (CR_tape h h8) (by decide)
  have e1 : upd (upd row 96 (nI (T + 1))) (97 + 2) (upd row 96 (nI (T + 1)) (97 + 2) + 1) = ctR row T := by
    funext j
    unfold ctR
    by_cases q : j = 99
    · subst q; rw [upd_same, upd_ne (by decide), upd_ne (by decide), upd_same]
    · rw [upd_ne q]
      by_cases q2 : j = 96
      · subst q2; rw [upd_same, upd_same]
      · rw [upd_ne q2, upd_ne q2, upd_ne q]
  rw [e1, upd_ne (show 2 + 2 ≠ 0 by decide), nI_succ, ← h.2.2.1] at h1
  exact h1
section MD7
variable (S : Nat → Nat → Int32) (R : Nat → Nat) {row : Nat → Int32} {T : Nat} {π : Nat → Int32}
set_option maxRecDepth 100000 in
theorem ev_mgoCut (hC : CR row T (S 25)) {a : Nat} (ha : a < T) (h8 : T < 8) {x : Int32} (hx : isNb x = true) (hb : ¬ ctB row a x) : ∃ S1, EvM kM_goCut [.ref 24, .int (nI a), .int x] (mk S R) (some (.int (10 + nI (mvN (ctR row T) a T x 12)))) (mk S1 R) ∧ (∀ i, i ≠ 25 → S1 i = S i) ∧ CR (mvR (ctR row T) a T x 12) (T + 1) (S1 25) := by
  have hz : cnt (ccB row a x) 12 = 0 := Decidable.byContradiction fun z => hb ((ct_cc (by omega) hC.2.1 hx).mpr z)
  have c1 := ev_mcanCut S R hC.cs (a := a) (by omega) x
  rw [decide_eq_true hz] at c1
  have hC0 := CR_cut hC h8
  have e0 : (0 : Int32) = nI 0 := rfl
  have e4 : (4 : Int32) = nI 4 := rfl
  have er : ∀ p, p < 12 → ctR row T (a * 12 + p) = row (a * 12 + p) := fun p hp => by unfold ctR; rw [upd_ne (by omega), upd_ne (by omega)]
  generalize ctR row T = Q at *
  have goal := down 12 (fun i => ∀ S : Nat → Nat → Int32, CR (mvR Q a T x i) (T + 1) (S 25) → ∃ S1, Gm kM_goCut 48 [some (.ref 24), some (.int (nI a)), some (.int x), some (.int (nI T)), some (.int (nI (mvN Q a T x i))), some (.int (nI i))] [] (S, PF R, 32) (some (.int (10 + nI (mvN Q a T x 12)))) (S1, PF R, 32) ∧ (∀ i, i ≠ 25 → S1 i = S i) ∧ CR (mvR Q a T x 12) (T + 1) (S1 25)) (fun S hC => by
    refine ⟨S, ?_, fun _ _ => rfl, hC⟩
    refine G_iload rfl rfl ?_
    refine G_bipush rfl ?_
    refine G_icmp_ge rfl (fun h => ?_) (fun h => ?_)
    · skip
      refine G_bipush rfl ?_
      refine G_iload rfl rfl ?_
      refine G_iadd rfl ?_
      exact H_ret rfl rfl (rfl) (rfl)
    · exact absurd (by decide) h) (fun i hi ih S hC1 => by
    have eX : mvR Q a T x i (a * 12 + i) = row (a * 12 + i) := by rw [mvR_ge (by omega) i i (Nat.le_refl i) (by omega) hi, er i hi]
    have hcc := cnt_0.mp hz i hi
    have c2 := ev_mhas S R hC1.cs (t := a) (p := i) (by omega) hi
    rw [show mvR Q a T x (i + 1) = mvS (mvR Q a T x i) a T x i from rfl, show mvN Q a T x (i + 1) = mvN Q a T x i + (bif mvP (mvR Q a T x i) a x i then 1 else 0) from rfl] at ih
    have ehs : hs (mvR Q a T x i) (a * 12 + i) = hs row (a * 12 + i) := by unfold hs; rw [eX]
    generalize mvR Q a T x i = X at *
    generalize mvN Q a T x i = N at *
    have no : mvP X a x i = false → ∃ S1, Gm kM_goCut 102 [some (.ref 24), some (.int (nI a)), some (.int x), some (.int (nI T)), some (.int (nI N)), some (.int (nI i))] [] (S, PF R, 32) (some (.int (10 + nI (mvN Q a T x 12)))) (S1, PF R, 32) ∧ (∀ i, i ≠ 25 → S1 i = S i) ∧ CR (mvR Q a T x 12) (T + 1) (S1 25) := fun e => by
      obtain ⟨S1, g, f1, h1⟩ := ih S (by rw [mvS, e, cond_false]; exact hC1)
      refine ⟨S1, ?_, f1, h1⟩
      rw [e, cond_false, Nat.add_zero, nI_succ] at g
      refine H_inc_6_5 rfl rfl ?_
      refine G_goto rfl ?_
      exact g
    cases hh : hs X (a * 12 + i) with
    | false =>
      rw [hh] at c2
      obtain ⟨S1, g, f1, h1⟩ := no (by rw [mvP, hh]; rfl)
      refine ⟨S1, ?_, f1, h1⟩
      refine G_iload rfl rfl ?_
      refine G_bipush rfl ?_
      refine G_icmp_ge rfl (fun h => ?_) (fun h => ?_)
      · exact absurd h (ge_no hi (by decide))
      refine G_aload_n rfl rfl ?_
      refine G_iload_n rfl rfl ?_
      refine G_iload rfl rfl ?_
      refine H_callV (c2) rfl rfl rfl rfl rfl rfl rfl rfl ?_
      refine G_if_eq rfl (fun h2 => ?_) (fun h2 => ?_)
      · exact g
      · exact absurd rfl h2
    | true =>
      rw [hh] at c2
      have c3 := ev_mof S R (t := a) (p := i) (by omega) hi
      rw [CR_of hC1.cs (by omega) hh] at c3
      by_cases lt : X (a * 12 + i) < x
      · obtain ⟨S1, g, f1, h1⟩ := no (by rw [mvP, hh, decide_eq_false (fun q => q lt)]; rfl)
        refine ⟨S1, ?_, f1, h1⟩
        refine G_iload rfl rfl ?_
        refine G_bipush rfl ?_
        refine G_icmp_ge rfl (fun h => ?_) (fun h => ?_)
        · exact absurd h (ge_no hi (by decide))
        refine G_aload_n rfl rfl ?_
        refine G_iload_n rfl rfl ?_
        refine G_iload rfl rfl ?_
        refine H_callV (c2) rfl rfl rfl rfl rfl rfl rfl rfl ?_
        refine G_if_eq rfl (fun h2 => ?_) (fun h2 => ?_)
        · exact absurd h2 (by decide)
        refine G_aload_n rfl rfl ?_
        refine G_iload_n rfl rfl ?_
        refine G_iload rfl rfl ?_
        refine H_callV (c3) rfl rfl rfl rfl rfl rfl rfl rfl ?_
        refine G_iload_n rfl rfl ?_
        refine G_icmp_lt rfl (fun h3 => ?_) (fun h3 => ?_)
        · exact g
        · exact absurd lt h3
      · have em : mvP X a x i = true := by rw [mvP, hh, decide_eq_true lt]; rfl
        have hrb := hC.2.1 (a * 12 + i) (by omega) (by rw [← ehs]; exact hh)
        have hv : isNb (X (a * 12 + i) - x) = true := by
          rw [eX]
          rw [eX] at lt
          rw [ccB, ← ehs, hh, Bool.true_and, Bool.not_eq_false', decide_eq_true_eq] at hcc
          have e1 := sub_b hrb hx
          rw [Int32.le_iff_toInt_le, show (999 : Int32).toInt = 999 by decide] at hcc
          rw [Int32.lt_iff_toInt_lt] at lt
          exact isNb_iff.mpr ⟨by omega, by omega⟩
        obtain ⟨s, c4, hC2⟩ := ev_mlays S R hC1 (t := T) (p := i) (by omega) hi hv
        obtain ⟨s2, c5, hC3⟩ := ev_mloses (u2 S 25 s) R (T := T + 1) (row := upd X (T * 12 + i) (X (a * 12 + i) - x)) (by rw [u2_same]; exact hC2) (t := a) (p := i) (by omega) hi
        obtain ⟨S1, g, f1, h1⟩ := ih (u2 (u2 S 25 s) 25 s2) (by rw [mvS, em, cond_true, u2_same]; exact hC3)
        refine ⟨S1, ?_, fun i h => (f1 i h).trans (by rw [u2_ne h, u2_ne h]), h1⟩
        rw [em, cond_true, nI_succ, nI_succ] at g
        refine G_iload rfl rfl ?_
        refine G_bipush rfl ?_
        refine G_icmp_ge rfl (fun h => ?_) (fun h => ?_)
        · exact absurd h (ge_no hi (by decide))
        refine G_aload_n rfl rfl ?_
        refine G_iload_n rfl rfl ?_
        refine G_iload rfl rfl ?_
        refine H_callV (c2) rfl rfl rfl rfl rfl rfl rfl rfl ?_
        refine G_if_eq rfl (fun h2 => ?_) (fun h2 => ?_)
        · exact absurd h2 (by decide)
        refine G_aload_n rfl rfl ?_
        refine G_iload_n rfl rfl ?_
        refine G_iload rfl rfl ?_
        refine H_callV (c3) rfl rfl rfl rfl rfl rfl rfl rfl ?_
        refine G_iload_n rfl rfl ?_
        refine G_icmp_lt rfl (fun h3 => ?_) (fun h3 => ?_)
        · exact absurd h3 lt
        refine G_aload_n rfl rfl ?_
        refine G_iload_n rfl rfl ?_
        refine G_iload rfl rfl ?_
        refine G_aload_n rfl rfl ?_
        refine G_iload_n rfl rfl ?_
        refine G_iload rfl rfl ?_
        refine H_callV (c3) rfl rfl rfl rfl rfl rfl rfl rfl ?_
        refine G_iload_n rfl rfl ?_
        refine G_isub rfl ?_
        refine H_callU (c4) rfl rfl rfl rfl rfl rfl rfl rfl ?_
        refine G_aload_n rfl rfl ?_
        refine G_iload_n rfl rfl ?_
        refine G_iload rfl rfl ?_
        refine H_callU (c5) rfl rfl rfl rfl rfl rfl rfl rfl ?_
        refine H_inc_6_4 rfl rfl ?_
        refine H_inc_6_5 rfl rfl ?_
        refine G_goto rfl ?_
        exact g)
  obtain ⟨S1, g, f1, h1⟩ := goal (u2 S 25 (upd (upd (S 25) 0 (S 25 0 + 1)) 4 (S 25 4 + 1))) (by rw [u2_same]; exact hC0)
  refine ⟨S1, ?_, fun i h => (f1 i h).trans (u2_ne h), h1⟩
  refine EvM_mk [some (.ref 24), some (.int (nI a)), some (.int x), none, none, none] rfl rfl rfl rfl rfl (trivial) ?_
  refine G_aload_n rfl rfl ?_
  refine G_iload_n rfl rfl ?_
  refine G_iload_n rfl rfl ?_
  refine H_callV (c1) rfl rfl rfl rfl rfl rfl rfl rfl ?_
  refine G_if_ne rfl (fun h => ?_) (fun h => ?_)
  · skip
    refine G_aload_n rfl rfl ?_
    refine H_getR rfl rfl rfl rfl rfl rfl ?_
    refine G_iconst rfl ?_
    refine H_iald rfl (e0) (rfl) ((by decide)) (rfl) ?_
    rw [hC.2.2.1]
    refine H_ist_6_3 rfl rfl ?_
    refine G_iconst rfl ?_
    refine H_ist_6_4 rfl rfl ?_
    refine G_aload_n rfl rfl ?_
    refine H_getR rfl rfl rfl rfl rfl rfl ?_
    refine G_iconst rfl ?_
    refine G_dup2 rfl rfl rfl ?_
    refine H_iald rfl (e0) (rfl) ((by decide)) (rfl) ?_
    refine G_iconst rfl ?_
    refine G_iadd rfl ?_
    refine H_iast rfl (e0) (rfl) ((by decide)) (rfl) ?_
    refine G_aload_n rfl rfl ?_
    refine H_getR rfl rfl rfl rfl rfl rfl ?_
    refine G_iconst rfl ?_
    refine G_dup2 rfl rfl rfl ?_
    refine H_iald rfl (e4) (rfl) ((by decide)) (rfl) ?_
    refine G_iconst rfl ?_
    refine G_iadd rfl ?_
    refine H_iast rfl (e4) (rfl) ((by decide)) (rfl) ?_
    refine G_iconst rfl ?_
    refine H_ist_6_5 rfl rfl ?_
    rw [u2_same, u2_u2, upd_ne (show 4 ≠ 0 by decide)]
    exact g
  · exact absurd h (by decide)
set_option maxRecDepth 100000 in
theorem ev_mgoCutR (hC : CR row T (S 25)) {a : Nat} (ha : a < T) {x : Int32} (hx : isNb x = true) (hb : ctB row a x) : EvM kM_goCut [.ref 24, .int (nI a), .int x] (mk S R) (some (.int 4)) (mk (u2 S 25 (upd (S 25) 3 (S 25 3 + 1))) R) := by
  have hT8 := hC.1.2.1
  have hz := (ct_cc (by omega) hC.2.1 hx).mp hb
  have c1 := ev_mcanCut S R hC.cs (a := a) (by omega) x
  rw [decide_eq_false hz] at c1
  refine EvM_mk [some (.ref 24), some (.int (nI a)), some (.int x), none, none, none] rfl rfl rfl rfl rfl (trivial) ?_
  refine G_aload_n rfl rfl ?_
  refine G_iload_n rfl rfl ?_
  refine G_iload_n rfl rfl ?_
  refine H_callV (c1) rfl rfl rfl rfl rfl rfl rfl rfl ?_
  refine G_if_ne rfl (fun h => ?_) (fun h => ?_)
  · exact absurd rfl h
  refine G_aload_n rfl rfl ?_
  refine G_iconst rfl ?_
  refine H_callV (ev_mrefuses S R 4) rfl rfl rfl rfl rfl rfl rfl rfl ?_
  exact H_ret rfl rfl (rfl) (rfl)
set_option maxRecDepth 100000 in
theorem mm_cut0 (hC : CR row T (S 25)) {t x : Int32} (h : (tIs row t && isNb x) = false) : EvM kM_cut [.ref 24, .int t, .int x] (mk S R) (some (.int (-1))) (mk S R) := by
  have c1 := ev_misTape S R hC.cs t
  have c2 := ev_misNumber S R x
  refine EvM_mk [some (.ref 24), some (.int t), some (.int x)] rfl rfl rfl rfl rfl (trivial) ?_
  refine G_aload_n rfl rfl ?_
  refine G_iload_n rfl rfl ?_
  refine H_callV (c1) rfl rfl rfl rfl rfl rfl rfl rfl ?_
  refine G_if_eq rfl (fun h1 => ?_) (fun h1 => ?_)
  · skip
    refine G_iconst rfl ?_
    exact H_ret rfl rfl (rfl) (rfl)
  rw [b2i_n0.mp h1, Bool.true_and] at h
  rw [h] at c2
  refine G_iload_n rfl rfl ?_
  refine H_callS (c2) rfl rfl rfl rfl rfl ?_
  refine G_if_ne rfl (fun h2 => ?_) (fun h2 => ?_)
  · exact absurd rfl h2
  refine G_iconst rfl ?_
  exact H_ret rfl rfl (rfl) (rfl)
set_option maxRecDepth 100000 in
theorem mm_cut8 (hC : CR row T (S 25)) {a : Nat} (ha : a < T) (h8 : ¬ T < 8) {x : Int32} (hx : isNb x = true) : EvM kM_cut [.ref 24, .int (nI a), .int x] (mk S R) (some (.int (-3))) (mk S R) := by
  have hT8 := hC.1.2.1
  have c1 := ev_misTape S R hC.cs (nI a)
  rw [tIs_nI hC.1.1 hT8 ha] at c1
  have c2 := ev_misNumber S R x
  rw [hx] at c2
  refine EvM_mk [some (.ref 24), some (.int (nI a)), some (.int x)] rfl rfl rfl rfl rfl (trivial) ?_
  refine G_aload_n rfl rfl ?_
  refine G_iload_n rfl rfl ?_
  refine H_callV (c1) rfl rfl rfl rfl rfl rfl rfl rfl ?_
  refine G_if_eq rfl (fun h1 => ?_) (fun h1 => ?_)
  · exact absurd h1 (by decide)
  refine G_iload_n rfl rfl ?_
  refine H_callS (c2) rfl rfl rfl rfl rfl ?_
  refine G_if_ne rfl (fun h2 => ?_) (fun h2 => ?_)
  · skip
    refine G_aload_n rfl rfl ?_
    refine H_getR rfl rfl rfl rfl rfl rfl ?_
    refine G_iconst rfl ?_
    refine H_iald rfl ((show (0 : Int32) = nI 0 from rfl)) (rfl) ((by decide)) (rfl) ?_
    refine G_bipush rfl ?_
    refine G_icmp_ne rfl (fun h3 => ?_) (fun h3 => ?_)
    · exact absurd (by rw [hC.2.2.1, show T = 8 by omega]; rfl) h3
    refine G_bipush rfl ?_
    exact H_ret rfl rfl (rfl) (rfl)
  · exact absurd h2 (by decide)
set_option maxRecDepth 100000 in
theorem mm_cut (hC : CR row T (S 25)) {n a : Nat} (hn : S 24 2 = nI n) (hn4 : n ≤ 4) (ha : a < T) (h8 : T < 8) {x : Int32} (hx : isNb x = true) : ∃ S1 T', EvM kM_cut [.ref 24, .int (nI a), .int x] (mk S R) (some (.int (@ite _ (ctB row a x) (Classical.propDecidable _) 4 (10 + nI (mvN (ctR row T) a T x 12))))) (mk S1 R) ∧ MD S S1 n (@ite _ (ctB row a x) (Classical.propDecidable _) (upd row 98 (row 98 + 1)) (mvR (ctR row T) a T x 12)) T' := by
  have hT8 := hC.1.2.1
  have c1 := ev_misTape S R hC.cs (nI a)
  rw [tIs_nI hC.1.1 hT8 ha] at c1
  have c2 := ev_misNumber S R x
  rw [hx] at c2
  obtain ⟨S0, c3, mr⟩ := ev_mrecords S R hn hn4
  have hC0 : CR row T (S0 25) := by rw [mr.1 25 (by decide) (by decide)]; exact hC
  have run : ∀ S1 r, EvM kM_goCut [.ref 24, .int (nI a), .int x] (mk S0 R) (some (.int r)) (mk S1 R) → EvM kM_cut [.ref 24, .int (nI a), .int x] (mk S R) (some (.int r)) (mk S1 R) := fun S1 r c4 => by
    refine EvM_mk [some (.ref 24), some (.int (nI a)), some (.int x)] rfl rfl rfl rfl rfl (trivial) ?_
    refine G_aload_n rfl rfl ?_
    refine G_iload_n rfl rfl ?_
    refine H_callV (c1) rfl rfl rfl rfl rfl rfl rfl rfl ?_
    refine G_if_eq rfl (fun h1 => ?_) (fun h1 => ?_)
    · exact absurd h1 (by decide)
    refine G_iload_n rfl rfl ?_
    refine H_callS (c2) rfl rfl rfl rfl rfl ?_
    refine G_if_ne rfl (fun h2 => ?_) (fun h2 => ?_)
    · skip
      refine G_aload_n rfl rfl ?_
      refine H_getR rfl rfl rfl rfl rfl rfl ?_
      refine G_iconst rfl ?_
      refine H_iald rfl ((show (0 : Int32) = nI 0 from rfl)) (rfl) ((by decide)) (rfl) ?_
      refine G_bipush rfl ?_
      refine G_icmp_ne rfl (fun h3 => ?_) (fun h3 => ?_)
      · skip
        refine G_aload_n rfl rfl ?_
        refine H_callU (c3) rfl rfl rfl rfl rfl rfl rfl rfl ?_
        refine G_aload_n rfl rfl ?_
        refine G_iload_n rfl rfl ?_
        refine G_iload_n rfl rfl ?_
        refine H_callV (c4) rfl rfl rfl rfl rfl rfl rfl rfl ?_
        exact H_ret rfl rfl (rfl) (rfl)
      · have h3 := Decidable.of_not_not h3
        rw [hC.2.2.1] at h3
        exact absurd ((nI_eq (show T < 2 ^ 31 by omega) (show 8 < 2 ^ 31 by decide)).mp h3) (by omega)
    · exact absurd h2 (by decide)
  by_cases hb : ctB row a x
  · rw [if_pos hb, if_pos hb]
    exact ⟨_, T, run _ _ (ev_mgoCutR S0 R hC0 ha hx hb), S0, mr, fun i h _ _ => u2_ne h, by rw [u2_same]; exact CR_ref S0 hC0⟩
  · rw [if_neg hb, if_neg hb]
    obtain ⟨S1, c4, f1, h1⟩ := ev_mgoCut S0 R hC0 ha h8 hx hb
    exact ⟨S1, T + 1, run _ _ c4, S0, mr, fun i h _ _ => f1 i h, h1⟩
end MD7
