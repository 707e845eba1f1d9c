/-! the document's own reckoning: ends of a tape, holding -/
def ltb (b : Bool) : Int32 → Int32 → Bool := bif b then ltI else gtI
theorem tBest_ix {row : Nat → Int32} {t : Nat} (ht : t < 8) (lt : Int32 → Int32 → Bool) : ∀ n, n ≤ 12 → tBest row (nI t) lt n = -4 ∧ (∀ i, i < n → hs row (t * 12 + i) = false) ∨ ∃ q, q < n ∧ hs row (t * 12 + q) = true ∧ tBest row (nI t) lt n = nI q
  | 0, _ => Or.inl ⟨rfl, fun i h => absurd h (Nat.not_lt_zero i)⟩
  | n + 1, h => by
    have ih := tBest_ix (row := row) ht lt n (by omega)
    rw [tBest, tHas_nI ht (show n < 12 by omega)]
    cases hh : hs row (t * 12 + n) with
    | false =>
      rw [Bool.false_and, cond_false]
      obtain ⟨e, h2⟩ | ⟨q, h1, h2, h3⟩ := ih
      · refine Or.inl ⟨e, fun i hi => ?_⟩
        by_cases ei : i = n
        · rw [ei]; exact hh
        · exact h2 i (by omega)
      · exact Or.inr ⟨q, by omega, h2, h3⟩
    | true =>
      rw [Bool.true_and]
      obtain ⟨e, h2⟩ | ⟨q, h1, h2, h3⟩ := ih
      · rw [e]
        exact Or.inr ⟨n, by omega, hh, rfl⟩
      · cases decide (tBest row (nI t) lt n = -4) || lt (tAt row (nI t) (nI n)) (tAt row (nI t) (tBest row (nI t) lt n)) with
        | true => exact Or.inr ⟨n, by omega, hh, rfl⟩
        | false => exact Or.inr ⟨q, by omega, h2, h3⟩
section ML5
variable (S : Nat → Nat → Int32) (R : Nat → Nat) {row : Nat → Int32} {T : Nat} {π : Nat → Int32}
set_option maxRecDepth 100000 in
theorem ev_mendOf (hC : CS row T (S 25)) {t : Nat} (ht : t < 8) (b : Bool) : EvM kM_endOf [.ref 24, .int (nI t), .int (b2i b)] (mk S R) (some (.int (tBest row (nI t) (ltb b) 12))) (mk S R) := by
  refine EvM_mk [some (.ref 24), some (.int (nI t)), some (.int (b2i b)), none, none, none] rfl rfl rfl rfl rfl (trivial) ?_
  refine G_bipush rfl ?_
  refine H_ist_6_3 rfl rfl ?_
  refine G_iconst rfl ?_
  refine H_ist_6_4 rfl rfl ?_
  refine down 12 (fun i => ∀ l5, Gm kM_endOf 6 [some (.ref 24), some (.int (nI t)), some (.int (b2i b)), some (.int (tBest row (nI t) (ltb b) i)), some (.int (nI i)), l5] [] (S, PF R, 32) (some (.int (tBest row (nI t) (ltb b) 12))) (S, PF R, 32)) (fun l5 => ?_) (fun i hi ih l5 => ?_) none
  · skip
    refine G_iload rfl rfl ?_
    refine G_bipush rfl ?_
    refine G_icmp_ge rfl (fun h => ?_) (fun h => ?_)
    · skip
      refine G_iload_n rfl rfl ?_
      exact H_ret rfl rfl (rfl) (rfl)
    · exact absurd (by decide) h
  · have hx := tBest_ix (row := row) ht (ltb b) i (by omega)
    rw [tBest, tHas_nI ht hi, nI_succ i] at ih
    have no : (hs row (t * 12 + i) && (decide (tBest row (nI t) (ltb b) i = -4) || ltb b (tAt row (nI t) (nI i)) (tAt row (nI t) (tBest row (nI t) (ltb b) i)))) = false → Gm kM_endOf 72 [some (.ref 24), some (.int (nI t)), some (.int (b2i b)), some (.int (tBest row (nI t) (ltb b) i)), some (.int (nI i)), l5] [] (S, PF R, 32) (some (.int (tBest row (nI t) (ltb b) 12))) (S, PF R, 32) := fun e => by
      have ih := ih (some (.int 0))
      rw [e, cond_false] at ih
      refine G_iconst rfl ?_
      refine H_ist_6_5 rfl rfl ?_
      refine G_iload rfl rfl ?_
      refine G_if_eq rfl (fun q => ?_) (fun q => ?_)
      · skip
        refine G_iload_n rfl rfl ?_
        refine H_ist_6_3 rfl rfl ?_
        refine H_inc_6_4 rfl rfl ?_
        refine G_goto rfl ?_
        exact ih
      · exact absurd rfl q
    have yes : (hs row (t * 12 + i) && (decide (tBest row (nI t) (ltb b) i = -4) || ltb b (tAt row (nI t) (nI i)) (tAt row (nI t) (tBest row (nI t) (ltb b) i)))) = true → Gm kM_endOf 68 [some (.ref 24), some (.int (nI t)), some (.int (b2i b)), some (.int (tBest row (nI t) (ltb b) i)), some (.int (nI i)), l5] [] (S, PF R, 32) (some (.int (tBest row (nI t) (ltb b) 12))) (S, PF R, 32) := fun e => by
      have ih := ih (some (.int 1))
      rw [e, cond_true] at ih
      refine G_iconst rfl ?_
      refine G_goto rfl ?_
      refine H_ist_6_5 rfl rfl ?_
      refine G_iload rfl rfl ?_
      refine G_if_eq rfl (fun q => ?_) (fun q => ?_)
      · exact absurd q (by decide)
      · skip
        refine G_iload rfl rfl ?_
        refine G_goto rfl ?_
        refine H_ist_6_3 rfl rfl ?_
        refine H_inc_6_4 rfl rfl ?_
        refine G_goto rfl ?_
        exact ih
    refine G_iload rfl rfl ?_
    refine G_bipush rfl ?_
    refine G_icmp_ge rfl (fun h => ?_) (fun h => ?_)
    · exact absurd h (ge_no hi (by decide))
    refine G_aload_n rfl rfl ?_
    refine G_iload_n rfl rfl ?_
    refine G_iload rfl rfl ?_
    refine H_callV (ev_mhas S R hC ht hi) rfl rfl rfl rfl rfl rfl rfl rfl ?_
    refine G_if_eq rfl (fun h1 => ?_) (fun h1 => ?_)
    · exact no (by rw [b2i_0.mp h1]; rfl)
    have h1 := b2i_n0.mp h1
    refine G_iload_n rfl rfl ?_
    refine G_bipush rfl ?_
    refine G_icmp_eq rfl (fun h2 => ?_) (fun h2 => ?_)
    · exact yes (by rw [h1, decide_eq_true h2]; rfl)
    obtain ⟨e, -⟩ | ⟨q, q1, q2, q3⟩ := hx
    · exact absurd e h2
    have ci := ev_mof S R (t := t) (p := i) ht hi
    have cq := ev_mof S R (t := t) (p := q) ht (by omega)
    rw [CR_of hC (by omega) h1] at ci
    rw [CR_of hC (by omega) q2] at cq
    rw [h1, decide_eq_false h2, Bool.false_or, Bool.true_and, q3, tAt_nI ht hi, tAt_nI ht (show q < 12 by omega)] at no yes
    cases b with
    | true =>
      refine G_iload_n rfl rfl ?_
      refine G_if_eq rfl (fun h3 => ?_) (fun h3 => ?_)
      · exact absurd h3 (by decide)
      refine G_aload_n rfl rfl ?_
      refine G_iload_n rfl rfl ?_
      refine G_iload rfl rfl ?_
      refine H_callV (ci) rfl rfl rfl rfl rfl rfl rfl rfl ?_
      rw [q3]
      refine G_aload_n rfl rfl ?_
      refine G_iload_n rfl rfl ?_
      refine G_iload_n rfl rfl ?_
      refine H_callV (cq) rfl rfl rfl rfl rfl rfl rfl rfl ?_
      refine G_icmp_ge rfl (fun h4 => ?_) (fun h4 => ?_)
      · exact no (by show decide _ = false; exact decide_eq_false (fun z => z h4))
      · skip
        refine G_goto rfl ?_
        exact yes (by show decide _ = true; exact decide_eq_true h4)
    | false =>
      refine G_iload_n rfl rfl ?_
      refine G_if_eq rfl (fun h3 => ?_) (fun h3 => ?_)
      · skip
        refine G_aload_n rfl rfl ?_
        refine G_iload_n rfl rfl ?_
        refine G_iload rfl rfl ?_
        refine H_callV (ci) rfl rfl rfl rfl rfl rfl rfl rfl ?_
        rw [q3]
        refine G_aload_n rfl rfl ?_
        refine G_iload_n rfl rfl ?_
        refine G_iload_n rfl rfl ?_
        refine H_callV (cq) rfl rfl rfl rfl rfl rfl rfl rfl ?_
        refine G_icmp_le rfl (fun h4 => ?_) (fun h4 => ?_)
        · exact no (by show decide _ = false; exact decide_eq_false (fun z => z h4))
        · exact yes (by show decide _ = true; exact decide_eq_true h4)
      · exact absurd rfl h3
set_option maxRecDepth 100000 in
theorem ml_tapeOf (hC : CR row T (S 25)) (t w : Int32) : ∃ S1, EvM kM_tapeOf [.ref 24, .int t, .int w] (mk S R) (some (.int (a_tapeOf row T t w))) (mk S1 R) ∧ sFr S S1 := by
  have hT8 := hC.1.2.1
  have c1 := ev_misTape S R hC.cs t
  unfold a_tapeOf
  cases b1 : tIs row t with
  | false =>
    rw [b1] at c1
    refine ⟨S, ?_, .rf⟩
    rw [Bool.false_and, cond_false]
    refine EvM_mk [some (.ref 24), some (.int t), some (.int w)] rfl rfl rfl rfl rfl (trivial) ?_
    refine G_aload_n rfl rfl ?_
    refine G_iload_n rfl rfl ?_
    refine H_callV (c1) rfl rfl rfl rfl rfl rfl rfl rfl ?_
    refine G_if_ne rfl (fun h1 => ?_) (fun h1 => ?_)
    · exact absurd rfl h1
    refine G_iconst rfl ?_
    exact H_ret rfl rfl (rfl) (rfl)
  | true =>
    rw [b1] at c1
    obtain ⟨a, ha, rfl⟩ := tIs_ix hC.1.1 hT8 b1
    rw [nI_clamp (show a < 2 ^ 31 by omega), Bool.true_and]
    by_cases wo : w < 0 ∨ 4 < w
    · refine ⟨S, ?_, .rf⟩
      rw [show (decide (¬ w < 0) && decide (¬ 4 < w)) = false by rcases wo with q | q <;> simp [q]]
      refine EvM_mk [some (.ref 24), some (.int (nI a)), some (.int w)] rfl rfl rfl rfl rfl (trivial) ?_
      refine G_aload_n rfl rfl ?_
      refine G_iload_n rfl rfl ?_
      refine H_callV (c1) rfl rfl rfl rfl rfl rfl rfl rfl ?_
      refine G_if_ne rfl (fun h1 => ?_) (fun h1 => ?_)
      · skip
        refine G_iload_n rfl rfl ?_
        refine G_switch rfl rfl rfl (And.intro (fun h => ?_) (And.intro (fun h => ?_) (And.intro (fun h => ?_) (And.intro (fun h => ?_) (And.intro (fun h => ?_) trivial))))) (fun h => ?_)
        · rw [h] at wo; exact absurd wo (by decide)
        · rw [h] at wo; exact absurd wo (by decide)
        · rw [h] at wo; exact absurd wo (by decide)
        · rw [h] at wo; exact absurd wo (by decide)
        · rw [h] at wo; exact absurd wo (by decide)
        · skip
          refine G_iconst rfl ?_
          exact H_ret rfl rfl (rfl) (rfl)
      · exact absurd h1 (by decide)
    · have w1 : ¬ w < 0 := fun q => wo (Or.inl q)
      have w2 : ¬ 4 < w := fun q => wo (Or.inr q)
      rw [decide_eq_true w1, decide_eq_true w2, Bool.true_and, cond_true]
      have cm := ev_mmany S R hC (t := a) (by omega)
      have cl := ev_mendOf S R hC.cs (t := a) (by omega) true
      have cg := ev_mendOf S R hC.cs (t := a) (by omega) false
      obtain ⟨Sw, cw, fw⟩ := ev_mtapesWith S R hC.cs ha
      by_cases w4 : w = 4
      · subst w4
        refine ⟨Sw, ?_, fw⟩
        refine EvM_mk [some (.ref 24), some (.int (nI a)), some (.int 4)] rfl rfl rfl rfl rfl (trivial) ?_
        refine G_aload_n rfl rfl ?_
        refine G_iload_n rfl rfl ?_
        refine H_callV (c1) rfl rfl rfl rfl rfl rfl rfl rfl ?_
        refine G_if_ne rfl (fun h1 => ?_) (fun h1 => ?_)
        · skip
          refine G_iload_n rfl rfl ?_
          refine G_switch rfl rfl rfl (And.intro (fun h => ?_) (And.intro (fun h => ?_) (And.intro (fun h => ?_) (And.intro (fun h => ?_) (And.intro (fun h => ?_) trivial))))) (fun h => ?_)
          · exact absurd h (by decide)
          · exact absurd h (by decide)
          · exact absurd h (by decide)
          · exact absurd h (by decide)
          · skip
            refine G_aload_n rfl rfl ?_
            refine G_iload_n rfl rfl ?_
            refine H_callV (cw) rfl rfl rfl rfl rfl rfl rfl rfl ?_
            exact H_ret rfl rfl (rfl) (rfl)
          · exact absurd h (by decide)
        · exact absurd h1 (by decide)
      · refine ⟨S, ?_, .rf⟩
        refine EvM_mk [some (.ref 24), some (.int (nI a)), some (.int w)] rfl rfl rfl rfl rfl (trivial) ?_
        refine G_aload_n rfl rfl ?_
        refine G_iload_n rfl rfl ?_
        refine H_callV (c1) rfl rfl rfl rfl rfl rfl rfl rfl ?_
        refine G_if_ne rfl (fun h1 => ?_) (fun h1 => ?_)
        · skip
          refine G_iload_n rfl rfl ?_
          refine G_switch rfl rfl rfl (And.intro (fun h => ?_) (And.intro (fun h => ?_) (And.intro (fun h => ?_) (And.intro (fun h => ?_) (And.intro (fun h => ?_) trivial))))) (fun h => ?_)
          · rw [h]
            refine G_aload_n rfl rfl ?_
            refine G_iload_n rfl rfl ?_
            refine H_callV (cm) rfl rfl rfl rfl rfl rfl rfl rfl ?_
            exact H_ret rfl rfl (rfl) (rfl)
          · rw [h]
            refine G_aload_n rfl rfl ?_
            refine G_iload_n rfl rfl ?_
            refine G_iload_n rfl rfl ?_
            refine G_iconst rfl ?_
            refine G_icmp_ne rfl (fun h2 => ?_) (fun h2 => ?_)
            · exact absurd rfl h2
            refine G_iconst rfl ?_
            refine G_goto rfl ?_
            refine H_callV (cl) rfl rfl rfl rfl rfl rfl rfl rfl ?_
            exact H_ret rfl rfl (rfl) (rfl)
          · rw [h]
            refine G_aload_n rfl rfl ?_
            refine G_iload_n rfl rfl ?_
            refine G_iload_n rfl rfl ?_
            refine G_iconst rfl ?_
            refine G_icmp_ne rfl (fun h2 => ?_) (fun h2 => ?_)
            · skip
              refine G_iconst rfl ?_
              refine H_callV (cg) rfl rfl rfl rfl rfl rfl rfl rfl ?_
              exact H_ret rfl rfl (rfl) (rfl)
            · exact absurd h2 (by decide)
          · rw [h]
            show Gm kM_tapeOf 66 _ _ _ (some (.int (tAt row (nI a) (tBest row (nI a) gtI 12) - tAt row (nI a) (tBest row (nI a) ltI 12)))) _
            have x1 := tBest_ix (row := row) (t := a) (by omega) gtI 12 (Nat.le_refl 12)
            have x2 := tBest_ix (row := row) (t := a) (by omega) ltI 12 (Nat.le_refl 12)
            have hlt : tOf row (nI a) 12 < 2 ^ 31 := by have := cnt_le (fun j => tHas row (nI a) (nI j)) 12; unfold tOf; omega
            have ez : tOf row (nI a) 12 = 0 ↔ ∀ i, i < 12 → hs row (a * 12 + i) = false := ⟨fun z i hi => by rw [← tHas_nI (show a < 8 by omega) hi]; exact cnt_0.mp z i hi, fun z => cnt_0.mpr (fun i hi => by rw [tHas_nI (show a < 8 by omega) hi]; exact z i hi)⟩
            refine G_aload_n rfl rfl ?_
            refine G_iload_n rfl rfl ?_
            refine H_callV (cm) rfl rfl rfl rfl rfl rfl rfl rfl ?_
            refine G_if_ne rfl (fun h2 => ?_) (fun h2 => ?_)
            · have hn : ¬ ∀ i, i < 12 → hs row (a * 12 + i) = false := fun z => h2 (by rw [ez.mpr z]; rfl)
              obtain ⟨-, q⟩ | ⟨q, q1, q2, q3⟩ := x1
              · exact absurd q hn
              obtain ⟨-, q'⟩ | ⟨r, r1, r2, r3⟩ := x2
              · exact absurd q' hn
              have cq := ev_mof S R (t := a) (p := q) (by omega) q1
              have cr := ev_mof S R (t := a) (p := r) (by omega) r1
              rw [CR_of hC.cs (by omega) q2] at cq
              rw [CR_of hC.cs (by omega) r2] at cr
              rw [show tBest row (nI a) (ltb false) 12 = nI q from q3] at cg
              rw [show tBest row (nI a) (ltb true) 12 = nI r from r3] at cl
              rw [q3, r3, tAt_nI (show a < 8 by omega) q1, tAt_nI (show a < 8 by omega) r1]
              refine G_aload_n rfl rfl ?_
              refine G_iload_n rfl rfl ?_
              refine G_aload_n rfl rfl ?_
              refine G_iload_n rfl rfl ?_
              refine G_iconst rfl ?_
              refine H_callV (cg) rfl rfl rfl rfl rfl rfl rfl rfl ?_
              refine H_callV (cq) rfl rfl rfl rfl rfl rfl rfl rfl ?_
              refine G_aload_n rfl rfl ?_
              refine G_iload_n rfl rfl ?_
              refine G_aload_n rfl rfl ?_
              refine G_iload_n rfl rfl ?_
              refine G_iconst rfl ?_
              refine H_callV (cl) rfl rfl rfl rfl rfl rfl rfl rfl ?_
              refine H_callV (cr) rfl rfl rfl rfl rfl rfl rfl rfl ?_
              refine G_isub rfl ?_
              exact H_ret rfl rfl (rfl) (rfl)
            · have z := ez.mp ((nI_0iff hlt).mp (Decidable.of_not_not h2))
              obtain ⟨e1, -⟩ | ⟨q, q1, q2, q3⟩ := x1
              · obtain ⟨e2, -⟩ | ⟨r, r1, r2, r3⟩ := x2
                · rw [e1, e2, Int32.sub_self]
                  refine G_iconst rfl ?_
                  refine G_goto rfl ?_
                  exact H_ret rfl rfl (rfl) (rfl)
                · rw [z r r1] at r2; cases r2
              · rw [z q q1] at q2; cases q2
          · exact absurd h w4
          · obtain ⟨k, hk, rfl⟩ := le_ix 4 (by decide) w1 w2
            exact absurd (sw_out (lo := 0) (hi := 4) (show k < 2 ^ 31 by omega) h) (by omega)
        · exact absurd h1 (by decide)
end ML5
