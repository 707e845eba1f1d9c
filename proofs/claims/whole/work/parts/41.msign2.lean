/-! the document's own reckoning: sign -/
/-- what a look may change: what is met, and the cells of a written sign -/
def mFr (S S' : Nat → Nat → Int32) : Prop := (∀ i, i ≠ 24 → i ≠ 29 → i ≠ 30 → S' i = S i) ∧ ∀ j, j ≠ 16 → j ≠ 17 → j ≠ 18 → S' 24 j = S 24 j
theorem sFr.m {S S' : Nat → Nat → Int32} (h : sFr S S') : mFr S S' := ⟨fun i _ h2 h3 => h i h2 h3, fun j _ _ _ => by rw [h 24 (by decide) (by decide)]⟩
section ML7
variable (S : Nat → Nat → Int32) (R : Nat → Nat) {row : Nat → Int32} {T : Nat} {π : Nat → Int32}
theorem WS_fr {q : Nat} {W : List Int32} : mFr S (WS S q W) := ⟨fun i h _ _ => u2_ne h, fun j h1 h2 h3 => by unfold WS; rw [u2_same, upd_ne h3, upd_ne h1, upd_ne h2]⟩
set_option maxRecDepth 100000 in
theorem ml_sign (hC : CS row T (S 25)) (t p : Int32) : ∃ S1, EvM kM_sign [.ref 24, .int t, .int p] (mk S R) (some (.int (a_sign row t p))) (mk S1 R) ∧ mFr S S1 := by
  have hT8 := hC.1.2.1
  have c1 := ev_misTape S R hC t
  unfold a_sign
  cases hb : tIs row t && decide (¬ p < 0) with
  | false =>
    refine ⟨S, ?_, sFr.rf.m⟩
    refine EvM_mk [some (.ref 24), some (.int t), some (.int p), none] rfl rfl rfl rfl rfl (trivial) ?_
    refine G_aload_n rfl rfl ?_
    refine G_iload_n rfl rfl ?_
    refine H_callV (c1) rfl rfl rfl rfl rfl rfl rfl rfl ?_
    refine G_if_eq rfl (fun h1 => ?_) (fun h1 => ?_)
    · skip
      refine G_iconst rfl ?_
      exact H_ret rfl rfl (rfl) (rfl)
    refine G_iload_n rfl rfl ?_
    refine G_if_ge rfl (fun h2 => ?_) (fun h2 => ?_)
    · rw [b2i_n0.mp h1, decide_eq_true (Int32.not_lt.mpr h2)] at hb; cases hb
    · skip
      refine G_iconst rfl ?_
      exact H_ret rfl rfl (rfl) (rfl)
  | true =>
    rw [Bool.and_eq_true, decide_eq_true_eq] at hb
    obtain ⟨b1, b2⟩ := hb
    rw [b1] at c1
    obtain ⟨a, ha, rfl⟩ := tIs_ix hC.1.1 hT8 b1
    obtain ⟨q, hq, rfl⟩ := le_ix (2 ^ 31 - 1) (by decide) b2 (by rw [Int32.lt_iff_toInt_lt, nI_toInt (by decide)]; have := p.toInt_lt; omega)
    have hq : q < 2 ^ 31 := by omega
    rw [nI_clamp (show a < 2 ^ 31 by omega), cond_true]
    have hl := wl_len row a
    refine ⟨WS S q (wl row a 12), ?_, WS_fr S⟩
    have eend : sgn (wl row a 12) (nI q) = WS S q (wl row a 12) 24 18 := by
      have := hl 12
      unfold sgn WS
      rw [u2_same, upd_same, nI_clamp hq]
      by_cases h : q < (wl row a 12).length
      · rw [if_pos h, decide_eq_true (Int32.not_le.mp (ge_no h (by omega))), cond_true]
      · rw [if_neg h, decide_eq_false (nI_nlt (by omega) (by omega)), cond_false]
    rw [eend]
    have goal : Gm kM_sign 32 [some (.ref 24), some (.int (nI a)), some (.int (nI q)), some (.int (nI 0))] [] (WS S q (wl row a 0), PF R, 32) (some (.int (WS S q (wl row a 12) 24 18))) (WS S q (wl row a 12), PF R, 32) := by
      refine down 12 (fun i => Gm kM_sign 32 [some (.ref 24), some (.int (nI a)), some (.int (nI q)), some (.int (nI i))] [] (WS S q (wl row a i), PF R, 32) (some (.int (WS S q (wl row a 12) 24 18))) (WS S q (wl row a 12), PF R, 32)) ?_ (fun i hi ih => ?_)
      · skip
        refine G_iload_n rfl rfl ?_
        refine G_bipush rfl ?_
        refine G_icmp_ge rfl (fun h => ?_) (fun h => ?_)
        · skip
          refine G_aload_n rfl rfl ?_
          refine H_getI rfl rfl rfl rfl ?_
          exact H_ret rfl rfl (rfl) (rfl)
        · exact absurd (by decide) h
      · have hli := hl i
        have hC1 : CS row T (WS S q (wl row a i) 25) := by rw [(WS_fr S).1 25 (by decide) (by decide) (by decide)]; exact hC
        have c2 := ev_mhas (WS S q (wl row a i)) R hC1 (t := a) (p := i) (by omega) hi
        rw [nI_succ i, wl] at ih
        cases hh : hs row (a * 12 + i) with
        | false =>
          rw [hh] at c2
          rw [hh, if_neg (by decide), List.append_nil] at ih
          refine G_iload_n rfl rfl ?_
          refine G_bipush rfl ?_
          refine G_icmp_ge rfl (fun h => ?_) (fun h => ?_)
          · exact absurd h (ge_no hi (by decide))
          refine G_aload_n rfl rfl ?_
          refine G_iload_n rfl rfl ?_
          refine G_iload_n rfl rfl ?_
          refine H_callV (c2) rfl rfl rfl rfl rfl rfl rfl rfl ?_
          refine G_if_eq rfl (fun h1 => ?_) (fun h1 => ?_)
          · skip
            refine H_inc_4_3 rfl rfl ?_
            refine G_goto rfl ?_
            exact ih
          · exact absurd rfl h1
        | true =>
          rw [hh] at c2
          rw [hh, if_pos rfl] at ih
          have hnb := hC.2.1 (a * 12 + i) (by omega) hh
          have tail : ∀ W : List Int32, W.length ≤ 100 → Gm kM_sign 32 [some (.ref 24), some (.int (nI a)), some (.int (nI q)), some (.int (nI i + 1))] [] (WS S q (W ++ ([48 + nI a, 97 + nI i, 61] ++ digs (row (a * 12 + i)))), PF R, 32) (some (.int (WS S q (wl row a 12) 24 18))) (WS S q (wl row a 12), PF R, 32) → Gm kM_sign 60 [some (.ref 24), some (.int (nI a)), some (.int (nI q)), some (.int (nI i))] [] (WS S q W, PF R, 32) (some (.int (WS S q (wl row a 12) 24 18))) (WS S q (wl row a 12), PF R, 32) := fun W hW kk => by
            have c6 := ev_mof (WS S q (W ++ [48 + nI a] ++ [97 + nI i] ++ [61])) R (t := a) (p := i) (by omega) hi
            have hC2 : CS row T (WS S q (W ++ [48 + nI a] ++ [97 + nI i] ++ [61]) 25) := by rw [(WS_fr S).1 25 (by decide) (by decide) (by decide)]; exact hC
            rw [CR_of hC2 (by omega) hh] at c6
            refine G_aload_n rfl rfl ?_
            refine G_bipush rfl ?_
            refine G_iload_n rfl rfl ?_
            refine G_iadd rfl ?_
            refine H_callU (ev_mwrites S R (W := W) (by omega) hq (48 + nI a)) rfl rfl rfl rfl rfl rfl rfl rfl ?_
            refine G_aload_n rfl rfl ?_
            refine G_bipush rfl ?_
            refine G_iload_n rfl rfl ?_
            refine G_iadd rfl ?_
            refine H_callU (ev_mwrites S R (W := W ++ [48 + nI a]) (by simp; omega) hq (97 + nI i)) rfl rfl rfl rfl rfl rfl rfl rfl ?_
            refine G_aload_n rfl rfl ?_
            refine G_bipush rfl ?_
            refine H_callU (ev_mwrites S R (W := W ++ [48 + nI a] ++ [97 + nI i]) (by simp; omega) hq 61) rfl rfl rfl rfl rfl rfl rfl rfl ?_
            refine G_aload_n rfl rfl ?_
            refine G_aload_n rfl rfl ?_
            refine G_iload_n rfl rfl ?_
            refine G_iload_n rfl rfl ?_
            refine H_callV (c6) rfl rfl rfl rfl rfl rfl rfl rfl ?_
            refine H_callU (ev_mwritesNumber S R (W := W ++ [48 + nI a] ++ [97 + nI i] ++ [61]) (by simp; omega) hq hnb) rfl rfl rfl rfl rfl rfl rfl rfl ?_
            refine H_inc_4_3 rfl rfl ?_
            refine G_goto rfl ?_
            rw [show W ++ [48 + nI a] ++ [97 + nI i] ++ [61] ++ digs (row (a * 12 + i)) = W ++ ([48 + nI a, 97 + nI i, 61] ++ digs (row (a * 12 + i))) by simp]
            exact kk
          have e16 : WS S q (wl row a i) 24 16 = nI (wl row a i).length := by unfold WS; rw [u2_same, upd_ne (by decide), upd_same]
          rw [← List.append_assoc] at ih
          refine G_iload_n rfl rfl ?_
          refine G_bipush rfl ?_
          refine G_icmp_ge rfl (fun h => ?_) (fun h => ?_)
          · exact absurd h (ge_no hi (by decide))
          refine G_aload_n rfl rfl ?_
          refine G_iload_n rfl rfl ?_
          refine G_iload_n rfl rfl ?_
          refine H_callV (c2) rfl rfl rfl rfl rfl rfl rfl rfl ?_
          refine G_if_eq rfl (fun h1 => ?_) (fun h1 => ?_)
          · exact absurd h1 (by decide)
          refine G_aload_n rfl rfl ?_
          refine H_getI rfl rfl rfl rfl ?_
          refine G_if_le rfl (fun h2 => ?_) (fun h2 => ?_)
          · rw [e16] at h2
            have h3 : (wl row a i).length = 0 := Decidable.byContradiction fun z => absurd h2 (ge_no (i := 0) (show 0 < (wl row a i).length by omega) (by omega))
            rw [if_pos h3, List.append_nil] at ih
            exact tail (wl row a i) (by omega) ih
          · rw [e16] at h2
            have h3 : ¬ (wl row a i).length = 0 := fun z => h2 (by rw [z]; decide)
            rw [if_neg h3] at ih
            refine G_aload_n rfl rfl ?_
            refine G_bipush rfl ?_
            refine H_callU (ev_mwrites S R (W := wl row a i) (by omega) hq 44) rfl rfl rfl rfl rfl rfl rfl rfl ?_
            exact tail (wl row a i ++ [44]) (by simp; omega) ih
    refine EvM_mk [some (.ref 24), some (.int (nI a)), some (.int (nI q)), none] rfl rfl rfl rfl rfl (trivial) ?_
    refine G_aload_n rfl rfl ?_
    refine G_iload_n rfl rfl ?_
    refine H_callV (c1) rfl rfl rfl rfl rfl rfl rfl rfl ?_
    refine G_if_eq rfl (fun h1 => ?_) (fun h1 => ?_)
    · exact absurd h1 (by decide)
    refine G_iload_n rfl rfl ?_
    refine G_if_ge rfl (fun h2 => ?_) (fun h2 => ?_)
    · skip
      refine G_aload_n rfl rfl ?_
      refine G_iload_n rfl rfl ?_
      refine H_putI rfl rfl rfl rfl ?_
      refine G_aload_n rfl rfl ?_
      refine G_iconst rfl ?_
      refine H_putI rfl rfl rfl rfl ?_
      refine G_aload_n rfl rfl ?_
      refine G_bipush rfl ?_
      refine H_putI rfl rfl rfl rfl ?_
      refine G_iconst rfl ?_
      refine H_ist_4_3 rfl rfl ?_
      have e0 : WS S q (wl row a 0) = u2 (u2 (u2 S 24 (upd (S 24) 17 (nI q))) 24 (upd (u2 S 24 (upd (S 24) 17 (nI q)) 24) 16 0)) 24 (upd (u2 (u2 S 24 (upd (S 24) 17 (nI q))) 24 (upd (u2 S 24 (upd (S 24) 17 (nI q)) 24) 16 0) 24) 18 (-4)) := by
        rw [u2_u2, u2_same, u2_same, u2_u2]
        rfl
      rw [← e0]
      exact goal
    · exact absurd (Int32.not_le.mp h2) b2
end ML7
