/-! the document's own reckoning: more looks -/
theorem ix12 (t p : Nat) : (12 : Int32) * nI t + nI p = nI (t * 12 + p) := by
  have h : (12 : Int32) * nI t = nI (t * 12) := by rw [Nat.mul_comm, nI_mul']; rfl
  rw [h, nI_add]
noncomputable def fm (row : Nat → Int32) (m : Nat) : Int32 := if m = 0 then -4 else nI (bR row m).1
noncomputable def mm (row : Nat → Int32) (m : Nat) : Int32 := if m = 0 then -1 else nI (bR row m).2
theorem fm_le {row : Nat → Int32} {m : Nat} (h : nI (nP row (m / 12) (m % 12)) ≤ mm row m) : fm row (m + 1) = fm row m ∧ mm row (m + 1) = mm row m := by
  have h1 := nP_le row (m / 12) (m % 12)
  unfold mm at h
  by_cases h0 : m = 0
  · rw [if_pos h0] at h
    rw [Int32.le_iff_toInt_le, nI_toInt (by omega), show (-1 : Int32).toInt = -1 by decide] at h
    omega
  · rw [if_neg h0] at h
    have := bR_le row m
    have h2 : ¬ (bR row m).2 < nP row (m / 12) (m % 12) := fun q => absurd h (ge_no q (by omega))
    unfold fm mm
    rw [if_neg h0, if_neg h0, if_neg (by omega), if_neg (by omega), bR, if_neg h2]
    exact ⟨rfl, rfl⟩
theorem fm_gt {row : Nat → Int32} {m : Nat} (h : ¬ nI (nP row (m / 12) (m % 12)) ≤ mm row m) : fm row (m + 1) = nI m ∧ mm row (m + 1) = nI (nP row (m / 12) (m % 12)) := by
  have h1 := nP_le row (m / 12) (m % 12)
  unfold mm at h
  by_cases h0 : m = 0
  · subst h0
    unfold fm mm
    rw [if_neg (by decide), if_neg (by decide), bR]
    by_cases h3 : (bR row 0).2 < nP row (0 / 12) (0 % 12)
    · rw [if_pos h3]; exact ⟨rfl, rfl⟩
    · rw [if_neg h3]
      have e : (bR row 0).2 = 0 := rfl
      exact ⟨rfl, by rw [e, show nP row (0 / 12) (0 % 12) = 0 by omega]⟩
  · rw [if_neg h0] at h
    have := bR_le row m
    have h2 : (bR row m).2 < nP row (m / 12) (m % 12) := Decidable.byContradiction fun q => h (nI_le (by omega) (by omega))
    unfold fm mm
    rw [if_neg (by omega), if_neg (by omega), bR, if_pos h2]
    exact ⟨rfl, rfl⟩
section ML2
variable (S : Nat → Nat → Int32) (R : Nat → Nat) {row : Nat → Int32} {T : Nat} {π : Nat → Int32}
set_option maxRecDepth 100000 in
theorem ev_mtapesAt (hC : CS row T (S 25)) {p : Nat} (hp : p < 12) : EvM kM_tapesAt [.ref 24, .int (nI p)] (mk S R) (some (.int (nI (tAtP row (nI p) T)))) (mk S R) := by
  have hT8 := hC.1.2.1
  refine EvM_mk [some (.ref 24), some (.int (nI p)), none, none] rfl rfl rfl rfl rfl (trivial) ?_
  refine G_iconst rfl ?_
  refine H_ist_4_2 rfl rfl ?_
  refine G_iconst rfl ?_
  refine H_ist_4_3 rfl rfl ?_
  refine down T (fun i => Gm kM_tapesAt 4 [some (.ref 24), some (.int (nI p)), some (.int (nI (tAtP row (nI p) i))), some (.int (nI i))] [] (S, PF R, 32) _ _) ?_ (fun i hi ih => ?_)
  · skip
    refine G_iload_n rfl rfl ?_
    refine G_aload_n rfl rfl ?_
    refine H_getR rfl rfl rfl rfl rfl rfl ?_
    refine G_iconst rfl ?_
    refine H_iald rfl (rfl) (rfl) ((by decide)) (rfl) ?_
    refine G_icmp_ge rfl (fun h => ?_) (fun h => ?_)
    · skip
      refine G_iload_n rfl rfl ?_
      exact H_ret rfl rfl (rfl) (rfl)
    · exact absurd (by rw [hC.2.2.1]; exact Int32.le_refl _) h
  · skip
    refine G_iload_n rfl rfl ?_
    refine G_aload_n rfl rfl ?_
    refine H_getR rfl rfl rfl rfl rfl rfl ?_
    refine G_iconst rfl ?_
    refine H_iald rfl (rfl) (rfl) ((by decide)) (rfl) ?_
    refine G_icmp_ge rfl (fun h => ?_) (fun h => ?_)
    · exact absurd (by rw [← hC.2.2.1]; exact h) (ge_no hi (by omega))
    refine G_iload_n rfl rfl ?_
    refine G_aload_n rfl rfl ?_
    refine G_iload_n rfl rfl ?_
    refine G_iload_n rfl rfl ?_
    refine H_callV (ev_mhas S R hC (t := i) (by omega) hp) rfl rfl rfl rfl rfl rfl rfl rfl ?_
    refine G_if_eq rfl (fun h1 => ?_) (fun h1 => ?_)
    · skip
      refine G_iconst rfl ?_
      refine G_iadd rfl ?_
      refine H_ist_4_2 rfl rfl ?_
      refine H_inc_4_3 rfl rfl ?_
      refine G_goto rfl ?_
      rw [show tAtP row (nI p) (i + 1) = tAtP row (nI p) i from cnt_f (by show tHas row (nI i) (nI p) = false; rw [tHas_nI (by omega) hp]; exact b2i_0.mp h1)] at ih
      rw [nI_succ, ← Int32.add_zero (nI (tAtP row (nI p) i))] at ih
      exact ih
    · skip
      refine G_iconst rfl ?_
      refine G_goto rfl ?_
      refine G_iadd rfl ?_
      refine H_ist_4_2 rfl rfl ?_
      refine H_inc_4_3 rfl rfl ?_
      refine G_goto rfl ?_
      rw [show tAtP row (nI p) (i + 1) = tAtP row (nI p) i + 1 from cnt_t (by show tHas row (nI i) (nI p) = true; rw [tHas_nI (by omega) hp]; exact b2i_n0.mp h1), nI_succ, nI_succ] at ih
      exact ih
set_option maxRecDepth 100000 in
theorem ev_mbareP (hC : CS row T (S 25)) : EvM kM_barePoints [.ref 24] (mk S R) (some (.int (nI (tBare row T 12)))) (mk S R) := by
  have hT8 := hC.1.2.1
  refine EvM_mk [some (.ref 24), none, none] rfl rfl rfl rfl rfl (trivial) ?_
  refine G_iconst rfl ?_
  refine H_ist_3_1 rfl rfl ?_
  refine G_iconst rfl ?_
  refine H_ist_3_2 rfl rfl ?_
  refine down 12 (fun i => Gm kM_barePoints 4 [some (.ref 24), some (.int (nI (tBare row T i))), some (.int (nI i))] [] (S, PF R, 32) _ _) ?_ (fun i hi ih => ?_)
  · skip
    refine G_iload_n rfl rfl ?_
    refine G_bipush rfl ?_
    refine G_icmp_ge rfl (fun h => ?_) (fun h => ?_)
    · skip
      refine G_iload_n rfl rfl ?_
      exact H_ret rfl rfl (rfl) (rfl)
    · exact absurd (by decide) h
  · have hlt : tAtP row (nI i) T < 2 ^ 31 := by have := cnt_le (fun j => tHas row (nI j) (nI i)) T; unfold tAtP; omega
    refine G_iload_n rfl rfl ?_
    refine G_bipush rfl ?_
    refine G_icmp_ge rfl (fun h => ?_) (fun h => ?_)
    · exact absurd h (ge_no hi (by decide))
    refine G_iload_n rfl rfl ?_
    refine G_aload_n rfl rfl ?_
    refine G_iload_n rfl rfl ?_
    refine H_callV (ev_mtapesAt S R hC hi) rfl rfl rfl rfl rfl rfl rfl rfl ?_
    refine G_if_ne rfl (fun h1 => ?_) (fun h1 => ?_)
    · skip
      refine G_iconst rfl ?_
      refine G_iadd rfl ?_
      refine H_ist_3_1 rfl rfl ?_
      refine H_inc_3_2 rfl rfl ?_
      refine G_goto rfl ?_
      rw [show tBare row T (i + 1) = tBare row T i from cnt_f (decide_eq_false (fun q => h1 (by rw [q]; rfl)))] at ih
      rw [nI_succ, ← Int32.add_zero (nI (tBare row T i))] at ih
      exact ih
    · skip
      refine G_iconst rfl ?_
      refine G_goto rfl ?_
      refine G_iadd rfl ?_
      refine H_ist_3_1 rfl rfl ?_
      refine H_inc_3_2 rfl rfl ?_
      refine G_goto rfl ?_
      rw [show tBare row T (i + 1) = tBare row T i + 1 from cnt_t (decide_eq_true ((nI_0iff hlt).mp (Decidable.of_not_not h1))), nI_succ, nI_succ] at ih
      exact ih
set_option maxRecDepth 100000 in
theorem ev_mbareT (hC : CR row T (S 25)) : EvM kM_bareTapes [.ref 24] (mk S R) (some (.int (nI (tBareT row T)))) (mk S R) := by
  have hT8 := hC.1.2.1
  refine EvM_mk [some (.ref 24), none, none] rfl rfl rfl rfl rfl (trivial) ?_
  refine G_iconst rfl ?_
  refine H_ist_3_1 rfl rfl ?_
  refine G_iconst rfl ?_
  refine H_ist_3_2 rfl rfl ?_
  refine down T (fun i => Gm kM_bareTapes 4 [some (.ref 24), some (.int (nI (tBareT row i))), some (.int (nI i))] [] (S, PF R, 32) _ _) ?_ (fun i hi ih => ?_)
  · skip
    refine G_iload_n rfl rfl ?_
    refine G_aload_n rfl rfl ?_
    refine H_getR rfl rfl rfl rfl rfl rfl ?_
    refine G_iconst rfl ?_
    refine H_iald rfl (rfl) (rfl) ((by decide)) (rfl) ?_
    refine G_icmp_ge rfl (fun h => ?_) (fun h => ?_)
    · skip
      refine G_iload_n rfl rfl ?_
      exact H_ret rfl rfl (rfl) (rfl)
    · exact absurd (by rw [hC.2.2.1]; exact Int32.le_refl _) h
  · have hlt : tOf row (nI i) 12 < 2 ^ 31 := by have := cnt_le (fun j => tHas row (nI i) (nI j)) 12; unfold tOf; omega
    refine G_iload_n rfl rfl ?_
    refine G_aload_n rfl rfl ?_
    refine H_getR rfl rfl rfl rfl rfl rfl ?_
    refine G_iconst rfl ?_
    refine H_iald rfl (rfl) (rfl) ((by decide)) (rfl) ?_
    refine G_icmp_ge rfl (fun h => ?_) (fun h => ?_)
    · exact absurd (by rw [← hC.2.2.1]; exact h) (ge_no hi (by omega))
    refine G_iload_n rfl rfl ?_
    refine G_aload_n rfl rfl ?_
    refine G_iload_n rfl rfl ?_
    refine H_callV (ev_mmany S R hC (t := i) (by omega)) rfl rfl rfl rfl rfl rfl rfl rfl ?_
    refine G_if_ne rfl (fun h1 => ?_) (fun h1 => ?_)
    · skip
      refine G_iconst rfl ?_
      refine G_iadd rfl ?_
      refine H_ist_3_1 rfl rfl ?_
      refine H_inc_3_2 rfl rfl ?_
      refine G_goto rfl ?_
      rw [show tBareT row (i + 1) = tBareT row i from cnt_f (decide_eq_false (fun q => h1 (by rw [q]; rfl)))] at ih
      rw [nI_succ, ← Int32.add_zero (nI (tBareT row i))] at ih
      exact ih
    · skip
      refine G_iconst rfl ?_
      refine G_goto rfl ?_
      refine G_iadd rfl ?_
      refine H_ist_3_1 rfl rfl ?_
      refine H_inc_3_2 rfl rfl ?_
      refine G_goto rfl ?_
      rw [show tBareT row (i + 1) = tBareT row i + 1 from cnt_t (decide_eq_true ((nI_0iff hlt).mp (Decidable.of_not_not h1))), nI_succ, nI_succ] at ih
      exact ih
/-- no tape beyond T hangs together with another node -/
theorem cB_far {t i : Nat} (hT : NT row T) (ht : t ≠ i) (hi : T ≤ i) (hi8 : i < 8) : cB row (12 + t) (12 + i) = false := by
  cases hc : cB row (12 + t) (12 + i) with
  | false => rfl
  | true =>
    refine absurd (cB_iff.mp hc (fun x => x ≠ 12 + i) (fun j hj hh => ?_) (by omega)) (fun q => q rfl)
    have : j / 12 ≠ i := fun e => hs_ne.mp hh (hT.2.2 j (by omega) hj)
    exact ⟨fun _ => by omega, fun _ => by omega⟩
theorem cnt_cut {f : Nat → Bool} {a : Nat} : ∀ b, (∀ i, a ≤ i → i < a + b → f i = false) → cnt f (a + b) = cnt f a
  | 0, _ => rfl
  | b + 1, h => by rw [← Nat.add_assoc, cnt_f (h (a + b) (by omega) (by omega))]; exact cnt_cut b (fun i h1 h2 => h i h1 (by omega))
set_option maxRecDepth 100000 in
theorem ev_mtapesWith (hC : CS row T (S 25)) {t : Nat} (ht : t < T) : ∃ S1, EvM kM_tapesWith [.ref 24, .int (nI t)] (mk S R) (some (.int (nI (pW row (12 + t) 12 T)))) (mk S1 R) ∧ sFr S S1 := by
  have hT8 := hC.1.2.1
  obtain ⟨S1, c1, fr, ms⟩ := ev_mspreads S R hC (a := 12 + t) (by omega)
  rw [← nI_add] at c1
  have e : pW row (12 + t) 12 T = pW row (12 + t) 12 8 := by
    have := cnt_cut (f := fun i => cB row (12 + t) (12 + i)) (a := T) (8 - T) (fun i h1 h2 => cB_far hC.1 (by omega) h1 (by omega))
    rw [show T + (8 - T) = 8 by omega] at this
    exact this.symm
  refine ⟨S1, ?_, fr⟩
  rw [e]
  refine EvM_mk [some (.ref 24), some (.int (nI t)), none, none] rfl rfl rfl rfl rfl (trivial) ?_
  refine G_aload_n rfl rfl ?_
  refine G_bipush rfl ?_
  refine G_iload_n rfl rfl ?_
  refine G_iadd rfl ?_
  refine H_callU (c1) rfl rfl rfl rfl rfl rfl rfl rfl ?_
  refine G_iconst rfl ?_
  refine H_ist_4_2 rfl rfl ?_
  refine G_bipush rfl ?_
  refine H_ist_4_3 rfl rfl ?_
  refine down 8 (fun i => Gm kM_tapesWith 13 [some (.ref 24), some (.int (nI t)), some (.int (nI (pW row (12 + t) 12 i))), some (.int (nI (12 + i)))] [] (S1, PF R, 32) _ _) ?_ (fun i hi ih => ?_)
  · skip
    refine G_iload_n rfl rfl ?_
    refine G_bipush rfl ?_
    refine G_icmp_ge rfl (fun h => ?_) (fun h => ?_)
    · skip
      refine G_iload_n rfl rfl ?_
      exact H_ret rfl rfl (rfl) (rfl)
    · exact absurd (by decide) h
  · have hm := ms.1 (12 + i) (by omega)
    refine G_iload_n rfl rfl ?_
    refine G_bipush rfl ?_
    refine G_icmp_ge rfl (fun h => ?_) (fun h => ?_)
    · exact absurd h (ge_no (n := 20) (show 12 + i < 20 by omega) (by decide))
    refine G_iload_n rfl rfl ?_
    refine G_aload_n rfl rfl ?_
    refine H_getR rfl rfl rfl rfl rfl rfl ?_
    refine G_iload_n rfl rfl ?_
    refine H_bald rfl (rfl) (rfl) ((by omega)) (rfl) ?_
    refine G_if_eq rfl (fun h1 => ?_) (fun h1 => ?_)
    · skip
      refine G_iconst rfl ?_
      refine G_iadd rfl ?_
      refine H_ist_4_2 rfl rfl ?_
      refine H_inc_4_3 rfl rfl ?_
      refine G_goto rfl ?_
      rw [hm] at h1
      rw [show pW row (12 + t) 12 (i + 1) = pW row (12 + t) 12 i from cnt_f (b2i_0.mp h1), ← Nat.add_assoc, nI_succ (12 + i), ← Int32.add_zero (nI (pW row (12 + t) 12 i))] at ih
      exact ih
    · skip
      refine G_iconst rfl ?_
      refine G_goto rfl ?_
      refine G_iadd rfl ?_
      refine H_ist_4_2 rfl rfl ?_
      refine H_inc_4_3 rfl rfl ?_
      refine G_goto rfl ?_
      rw [hm] at h1
      rw [show pW row (12 + t) 12 (i + 1) = pW row (12 + t) 12 i + 1 from cnt_t (b2i_n0.mp h1), ← Nat.add_assoc, nI_succ (12 + i), nI_succ] at ih
      exact ih
set_option maxRecDepth 100000 in
theorem ml_known (hC : CS row T (S 25)) : ∃ S1, EvM kM_known [.ref 24] (mk S R) (some (.double (a_known row))) (mk S1 R) ∧ sFr S S1 := by
  have hle := kE_le row 12
  have h2 : nI (kE row 12) / 2 = nI (kE row 12 / 2) := pk_div (a := kE row 12) (d := 2) (by omega) (by decide) (by decide)
  have goal := down 12 (fun i => ∀ S : Nat → Nat → Int32, CS row T (S 25) → ∃ S1, Gm kM_known 4 [some (.ref 24), some (.int (nI (kE row i))), some (.int (nI i))] [] (S, PF R, 32) (some (.double (a_known row))) (S1, PF R, 32) ∧ sFr S S1) (fun S hC => by
    refine ⟨S, ?_, .rf⟩
    refine G_iload_n rfl rfl ?_
    refine G_bipush rfl ?_
    refine G_icmp_ge rfl (fun h => ?_) (fun h => ?_)
    · skip
      refine G_iload_n rfl rfl ?_
      refine G_iconst rfl ?_
      refine G_idiv rfl (by decide) ?_
      rw [h2]
      refine G_i2d rfl ?_
      refine G_ldc2 rfl ?_
      refine G_ddiv rfl (ddiv_ok _ (by omega)) ?_
      exact G_ret rfl rfl rfl rfl
    · exact absurd (by decide) h) (fun i hi ih S hC => by
    obtain ⟨S1, c1, f1, m1⟩ := ev_mspreads S R hC (a := i) (by omega)
    have c2 := ev_mmetPoints S1 R m1.1
    obtain ⟨S2, g, f2⟩ := ih S1 (by rw [f1 25 (by decide) (by decide)]; exact hC)
    have hp := pW_self (row := row) hi
    have e2 : nI (pW row i 0 12) - 1 = nI (pW row i 0 12 - 1) := pk_sub (b := 1) hp
    refine ⟨S2, ?_, f1.tr f2⟩
    refine G_iload_n rfl rfl ?_
    refine G_bipush rfl ?_
    refine G_icmp_ge rfl (fun h => ?_) (fun h => ?_)
    · exact absurd h (ge_no hi (by decide))
    refine G_aload_n rfl rfl ?_
    refine G_iload_n rfl rfl ?_
    refine H_callU (c1) rfl rfl rfl rfl rfl rfl rfl rfl ?_
    refine G_iload_n rfl rfl ?_
    refine G_aload_n rfl rfl ?_
    refine H_callV (c2) rfl rfl rfl rfl rfl rfl rfl rfl ?_
    refine G_iconst rfl ?_
    refine G_isub rfl ?_
    refine G_iadd rfl ?_
    rw [e2, nI_add]
    refine H_ist_3_1 rfl rfl ?_
    refine H_inc_3_2 rfl rfl ?_
    refine G_goto rfl ?_
    rw [← nI_succ]
    exact g)
  obtain ⟨S1, g, fr⟩ := goal S hC
  refine ⟨S1, ?_, fr⟩
  refine EvM_mk [some (.ref 24), none, none] rfl rfl rfl rfl rfl (trivial) ?_
  refine G_iconst rfl ?_
  refine H_ist_3_1 rfl rfl ?_
  refine G_iconst rfl ?_
  refine H_ist_3_2 rfl rfl ?_
  exact g
set_option maxRecDepth 100000 in
theorem ml_best (hC : CS row T (S 25)) : ∃ S1, EvM kM_bestReading [.ref 24] (mk S R) (some (.int (a_best row T))) (mk S1 R) ∧ sFr S S1 := by
  have hT8 := hC.1.2.1
  have ea : a_best row T = fm row (T * 12) := by
    unfold a_best fm
    by_cases h : T = 0
    · rw [if_pos h, if_pos (by omega)]
    · rw [if_neg h, if_neg (by omega)]
  rw [ea]
  have goal := down T (fun t => ∀ S : Nat → Nat → Int32, CS row T (S 25) → ∀ l4 l5, ∃ S1, Gm kM_bestReading 7 [some (.ref 24), some (.int (fm row (t * 12))), some (.int (mm row (t * 12))), some (.int (nI t)), l4, l5] [] (S, PF R, 32) (some (.int (fm row (T * 12)))) (S1, PF R, 32) ∧ sFr S S1) (fun S hC l4 l5 => by
    refine ⟨S, ?_, .rf⟩
    refine G_iload_n rfl rfl ?_
    refine G_aload_n rfl rfl ?_
    refine H_getR rfl rfl rfl rfl rfl rfl ?_
    refine G_iconst rfl ?_
    refine H_iald rfl (rfl) (rfl) ((by decide)) (rfl) ?_
    refine G_icmp_ge rfl (fun h => ?_) (fun h => ?_)
    · skip
      refine G_iload_n rfl rfl ?_
      exact H_ret rfl rfl (rfl) (rfl)
    · exact absurd (by rw [hC.2.2.1]; exact Int32.le_refl _) h) (fun t ht ih S hC l4 l5 => by
    have inner := down 12 (fun p => ∀ S : Nat → Nat → Int32, CS row T (S 25) → ∀ l5, ∃ S1, Gm kM_bestReading 20 [some (.ref 24), some (.int (fm row (t * 12 + p))), some (.int (mm row (t * 12 + p))), some (.int (nI t)), some (.int (nI p)), l5] [] (S, PF R, 32) (some (.int (fm row (T * 12)))) (S1, PF R, 32) ∧ sFr S S1) (fun S hC l5 => by
      obtain ⟨S1, g, fr⟩ := ih S hC (some (.int (nI 12))) l5
      refine ⟨S1, ?_, fr⟩
      rw [nI_succ, show (t + 1) * 12 = t * 12 + 12 by omega] at g
      refine G_iload rfl rfl ?_
      refine G_bipush rfl ?_
      refine G_icmp_ge rfl (fun h => ?_) (fun h => ?_)
      · skip
        refine H_inc_6_3 rfl rfl ?_
        refine G_goto rfl ?_
        exact g
      · exact absurd (by decide) h) (fun p hp ih2 S hC l5 => by
      obtain ⟨S1, c1, f1⟩ := ev_mmoreBy S R hC (t := t) (by omega) hp
      obtain ⟨S2, g, f2⟩ := ih2 S1 (by rw [f1 25 (by decide) (by decide)]; exact hC) (some (.int (nI (nP row t p))))
      refine ⟨S2, ?_, f1.tr f2⟩
      rw [← Nat.add_assoc, nI_succ p] at g
      have em : nP row ((t * 12 + p) / 12) ((t * 12 + p) % 12) = nP row t p := by rw [show (t * 12 + p) / 12 = t by omega, show (t * 12 + p) % 12 = p by omega]
      have hle := fm_le (row := row) (m := t * 12 + p)
      have hgt := fm_gt (row := row) (m := t * 12 + p)
      rw [em] at hle hgt
      refine G_iload rfl rfl ?_
      refine G_bipush rfl ?_
      refine G_icmp_ge rfl (fun h => ?_) (fun h => ?_)
      · exact absurd h (ge_no hp (by decide))
      refine G_aload_n rfl rfl ?_
      refine G_iload_n rfl rfl ?_
      refine G_iload rfl rfl ?_
      refine H_callV (c1) rfl rfl rfl rfl rfl rfl rfl rfl ?_
      refine H_ist_6_5 rfl rfl ?_
      refine G_iload rfl rfl ?_
      refine G_iload_n rfl rfl ?_
      refine G_icmp_le rfl (fun h1 => ?_) (fun h1 => ?_)
      · skip
        refine G_iload_n rfl rfl ?_
        refine H_ist_6_1 rfl rfl ?_
        refine G_iload rfl rfl ?_
        refine G_iload_n rfl rfl ?_
        refine G_icmp_le rfl (fun h2 => ?_) (fun h2 => ?_)
        · skip
          refine G_iload_n rfl rfl ?_
          refine H_ist_6_2 rfl rfl ?_
          refine H_inc_6_4 rfl rfl ?_
          refine G_goto rfl ?_
          rw [(hle h1).1, (hle h1).2] at g
          exact g
        · exact absurd h1 h2
      · skip
        refine G_bipush rfl ?_
        refine G_iload_n rfl rfl ?_
        refine G_imul rfl ?_
        refine G_iload rfl rfl ?_
        refine G_iadd rfl ?_
        rw [ix12]
        refine G_goto rfl ?_
        refine H_ist_6_1 rfl rfl ?_
        refine G_iload rfl rfl ?_
        refine G_iload_n rfl rfl ?_
        refine G_icmp_le rfl (fun h2 => ?_) (fun h2 => ?_)
        · exact absurd h2 h1
        · skip
          refine G_iload rfl rfl ?_
          refine G_goto rfl ?_
          refine H_ist_6_2 rfl rfl ?_
          refine H_inc_6_4 rfl rfl ?_
          refine G_goto rfl ?_
          rw [(hgt h1).1, (hgt h1).2] at g
          exact g)
    obtain ⟨S1, g, fr⟩ := inner S hC l5
    refine ⟨S1, ?_, fr⟩
    refine G_iload_n rfl rfl ?_
    refine G_aload_n rfl rfl ?_
    refine H_getR rfl rfl rfl rfl rfl rfl ?_
    refine G_iconst rfl ?_
    refine H_iald rfl (rfl) (rfl) ((by decide)) (rfl) ?_
    refine G_icmp_ge rfl (fun h => ?_) (fun h => ?_)
    · exact absurd (by rw [← hC.2.2.1]; exact h) (ge_no ht (by omega))
    refine G_iconst rfl ?_
    refine H_ist_6_4 rfl rfl ?_
    exact g)
  obtain ⟨S1, g, fr⟩ := goal S hC none none
  refine ⟨S1, ?_, fr⟩
  refine EvM_mk [some (.ref 24), none, none, none, none, none] rfl rfl rfl rfl rfl (trivial) ?_
  refine G_bipush rfl ?_
  refine H_ist_6_1 rfl rfl ?_
  refine G_iconst rfl ?_
  refine H_ist_6_2 rfl rfl ?_
  refine G_iconst rfl ?_
  refine H_ist_6_3 rfl rfl ?_
  exact g
end ML2
