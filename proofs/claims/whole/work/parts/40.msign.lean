/-! the document's own reckoning: what holds, signs -/
theorem CS_del {row : Nat → Int32} {T : Nat} {s : Nat → Int32} (h : CS row T s) {j : Nat} (hj : j < 96) : CS (upd row j NONE) T (upd s (6 + j) 0) := by
  obtain ⟨h1, h2, h3, h9⟩ := h
  have hT8 := h1.2.1
  refine ⟨⟨by rw [upd_ne (by omega)]; exact h1.1, h1.2.1, fun i q1 q2 => ?_⟩, fun i hi hh => ?_, ?_, fun i hi => ?_⟩
  · by_cases e : i = j
    · rw [e, upd_same]
    · rw [upd_ne e]; exact h1.2.2 i q1 q2
  · by_cases e : i = j
    · rw [hs_up2, if_pos e] at hh; cases hh
    · rw [upd_ne e]; rw [hs_up2, if_neg e] at hh; exact h2 i hi hh
  · rw [upd_ne (by omega), h3]
  · by_cases e : i = j
    · rw [e, upd_same, upd_same]; rfl
    · rw [upd_ne (by omega), upd_ne e, h9 i hi]
def mdg (u : Int32) : List Int32 := (if u ≤ 99 then [] else [48 + u / 100]) ++ ((if u ≤ 9 then [] else [48 + (u / 10 - u / 10 / 10 * 10)]) ++ [48 + (u - u / 10 * 10)])
theorem mdg_eq {k : Nat} (hk : k < 1000) : digU (nI k) = mdg (nI k) := by
  have h := nI_toInt (show k < 2 ^ 31 by omega)
  have sw : ∀ {m m1 : Nat}, m1 = m + 1 → m1 < 2 ^ 31 → ((nI m1 ≤ nI k) ↔ ¬ nI k ≤ nI m) := fun e hm => by
    rw [Int32.le_iff_toInt_le, Int32.le_iff_toInt_le, h, nI_toInt hm, nI_toInt (by omega)]; omega
  have h1 : ((100 : Int32) ≤ nI k) ↔ ¬ nI k ≤ 99 := sw (m := 99) (m1 := 100) rfl (by decide)
  have h2 : ((10 : Int32) ≤ nI k) ↔ ¬ nI k ≤ 9 := sw (m := 9) (m1 := 10) rfl (by decide)
  unfold digU mdg
  congr 1
  · by_cases q : nI k ≤ 99
    · rw [if_neg (fun z => h1.mp z q), if_pos q]
    · rw [if_pos (h1.mpr q), if_neg q]
  · congr 1
    by_cases q : nI k ≤ 9
    · rw [if_neg (fun z => h2.mp z q), if_pos q]
    · rw [if_pos (h2.mpr q), if_neg q]
def WS (S : Nat → Nat → Int32) (q : Nat) (W : List Int32) : Nat → Nat → Int32 := u2 S 24 (upd (upd (upd (S 24) 17 (nI q)) 16 (nI W.length)) 18 (if q < W.length then W.getD q 0 else -4))
section ML6
variable (S : Nat → Nat → Int32) (R : Nat → Nat) {row : Nat → Int32} {T : Nat} {π : Nat → Int32}
set_option maxRecDepth 100000 in
theorem ev_mdoesHold (hC : CS row T (S 25)) {t p : Nat} (ht : t < 8) (hp : p < 12) : ∃ S1, EvM kM_doesHold [.ref 24, .int (nI t), .int (nI p)] (mk S R) (some (.int (b2i (!cB (upd row (t * 12 + p) NONE) p (12 + t))))) (mk S1 R) ∧ sFr S S1 := by
  have hC1 := CS_del hC (j := t * 12 + p) (by omega)
  obtain ⟨S1, c1, f1, m1⟩ := ev_mspreads (u2 S 25 (upd (S 25) (6 + (t * 12 + p)) 0)) R (row := upd row (t * 12 + p) NONE) (T := T) (by rw [u2_same]; exact hC1) (a := p) (by omega)
  have hm := m1.1 (12 + t) (by omega)
  have e25 : S1 25 = upd (S 25) (6 + (t * 12 + p)) 0 := by rw [f1 25 (by decide) (by decide), u2_same]
  have ez : upd (S1 25) (6 + (t * 12 + p)) (S 25 (6 + (t * 12 + p))) = S 25 := by
    rw [e25]
    funext z
    by_cases e : z = 6 + (t * 12 + p)
    · rw [e, upd_same]
    · rw [upd_ne e, upd_ne e]
  refine ⟨u2 S1 25 (S 25), ?_, fun i h1 h2 => ?_⟩
  · have ex : (12 : Int32) + nI t = nI (12 + t) := (nI_add 12 t).symm ▸ rfl
    refine EvM_mk [some (.ref 24), some (.int (nI t)), some (.int (nI p)), none] rfl rfl rfl rfl rfl (okb _) ?_
    refine G_aload_n rfl rfl ?_
    refine H_getR rfl rfl rfl rfl rfl rfl ?_
    refine G_bipush rfl ?_
    refine G_bipush rfl ?_
    refine G_iload_n rfl rfl ?_
    refine G_imul rfl ?_
    refine G_iadd rfl ?_
    refine G_iload_n rfl rfl ?_
    refine G_iadd rfl ?_
    refine H_iald rfl (ix6 t p) (rfl) ((by omega)) (rfl) ?_
    refine H_ist_4_3 rfl rfl ?_
    refine G_aload_n rfl rfl ?_
    refine H_getR rfl rfl rfl rfl rfl rfl ?_
    refine G_bipush rfl ?_
    refine G_bipush rfl ?_
    refine G_iload_n rfl rfl ?_
    refine G_imul rfl ?_
    refine G_iadd rfl ?_
    refine G_iload_n rfl rfl ?_
    refine G_iadd rfl ?_
    refine G_iconst rfl ?_
    refine H_iast rfl (ix6 t p) (rfl) ((by omega)) (rfl) ?_
    refine G_aload_n rfl rfl ?_
    refine G_iload_n rfl rfl ?_
    refine H_callU (c1) rfl rfl rfl rfl rfl rfl rfl rfl ?_
    refine G_aload_n rfl rfl ?_
    refine H_getR rfl rfl rfl rfl rfl rfl ?_
    refine G_bipush rfl ?_
    refine G_bipush rfl ?_
    refine G_iload_n rfl rfl ?_
    refine G_imul rfl ?_
    refine G_iadd rfl ?_
    refine G_iload_n rfl rfl ?_
    refine G_iadd rfl ?_
    refine G_iload_n rfl rfl ?_
    refine H_iast rfl (ix6 t p) (rfl) ((by omega)) (rfl) ?_
    rw [ez]
    refine G_aload_n rfl rfl ?_
    refine H_getR rfl rfl rfl rfl rfl rfl ?_
    refine G_bipush rfl ?_
    refine G_iload_n rfl rfl ?_
    refine G_iadd rfl ?_
    refine H_bald rfl (ex) (rfl) ((by omega)) (rfl) ?_
    rw [u2_ne (show 29 ≠ 25 by decide), hm]
    refine G_if_ne rfl (fun h => ?_) (fun h => ?_)
    · skip
      refine G_iconst rfl ?_
      exact H_ret rfl rfl ((by rw [b2i_n0.mp h]; rfl)) (rfl)
    refine G_iconst rfl ?_
    refine G_goto rfl ?_
    exact H_ret rfl rfl ((by rw [b2i_0.mp (Decidable.of_not_not h)]; rfl)) (rfl)
  · by_cases e : i = 25
    · rw [e, u2_same]
    · rw [u2_ne e, f1 i h1 h2, u2_ne e]
set_option maxRecDepth 100000 in
theorem ml_holding (hC : CS row T (S 25)) (w : Int32) : ∃ S1, EvM kM_holding [.ref 24, .int w] (mk S R) (some (.int (a_holding row w))) (mk S1 R) ∧ sFr S S1 := by
  have hT8 := hC.1.2.1
  have c0 := ev_min S R w 0 1
  rw [show a_holding row w = bif mIn w 0 1 then nI (brs row) else -1 from rfl]
  cases hb : mIn w 0 1 with
  | false =>
    rw [hb] at c0
    refine ⟨S, ?_, .rf⟩
    refine EvM_mk [some (.ref 24), some (.int w), none, none, none] rfl rfl rfl rfl rfl (trivial) ?_
    refine G_iload_n rfl rfl ?_
    refine G_iconst rfl ?_
    refine G_iconst rfl ?_
    refine H_callS (c0) rfl rfl rfl rfl rfl ?_
    refine G_if_ne rfl (fun h => ?_) (fun h => ?_)
    · exact absurd rfl h
    refine G_iconst rfl ?_
    exact H_ret rfl rfl (rfl) (rfl)
  | true =>
    rw [hb] at c0
    rw [cond_true]
    have eb : brs row = cnt (br row) (T * 12) := by
      have := cnt_cut (f := br row) (a := T * 12) (96 - T * 12) (fun i h1 h2 => by
        unfold br
        cases h : hs row i with
        | false => rfl
        | true => exact absurd (hC.1.2.2 i h1 (by omega)) (hs_ne.mp h))
      rw [show T * 12 + (96 - T * 12) = 96 by omega] at this
      exact this
    rw [eb]
    have ebr : ∀ t p, p < 12 → br row (t * 12 + p) = (hs row (t * 12 + p) && !cB (upd row (t * 12 + p) NONE) p (12 + t)) := fun t p hp => by
      unfold br cB
      rw [show (t * 12 + p) % 12 = p by omega, show (t * 12 + p) / 12 = t by omega]
    have goal := down T (fun t => ∀ S : Nat → Nat → Int32, CS row T (S 25) → ∀ l4, ∃ S1, Gm kM_holding 15 [some (.ref 24), some (.int w), some (.int (nI (cnt (br row) (t * 12)))), some (.int (nI t)), l4] [] (S, PF R, 32) (some (.int (nI (cnt (br row) (T * 12))))) (S1, PF R, 32) ∧ sFr S S1) (fun S hC l4 => by
      refine ⟨S, ?_, .rf⟩
      refine G_iload_n rfl rfl ?_
      refine G_aload_n rfl rfl ?_
      refine H_getR rfl rfl rfl rfl rfl rfl ?_
      refine G_iconst rfl ?_
      refine H_iald rfl (rfl) (rfl) ((by decide)) (rfl) ?_
      refine G_icmp_ge rfl (fun h => ?_) (fun h => ?_)
      · skip
        refine G_iload_n rfl rfl ?_
        exact H_ret rfl rfl (rfl) (rfl)
      · exact absurd (by rw [hC.2.2.1]; exact Int32.le_refl _) h) (fun t ht ih S hC l4 => by
      have inner := down 12 (fun p => ∀ S : Nat → Nat → Int32, CS row T (S 25) → ∃ S1, Gm kM_holding 28 [some (.ref 24), some (.int w), some (.int (nI (cnt (br row) (t * 12 + p)))), some (.int (nI t)), some (.int (nI p))] [] (S, PF R, 32) (some (.int (nI (cnt (br row) (T * 12))))) (S1, PF R, 32) ∧ sFr S S1) (fun S hC => by
        obtain ⟨S1, g, fr⟩ := ih S hC (some (.int (nI 12)))
        refine ⟨S1, ?_, fr⟩
        rw [nI_succ, show (t + 1) * 12 = t * 12 + 12 by omega] at g
        refine G_iload rfl rfl ?_
        refine G_bipush rfl ?_
        refine G_icmp_ge rfl (fun h => ?_) (fun h => ?_)
        · skip
          refine H_inc_5_3 rfl rfl ?_
          refine G_goto rfl ?_
          exact g
        · exact absurd (by decide) h) (fun p hp ih2 S hC => by
        have c1 := ev_mhas S R hC (t := t) (p := p) (by omega) hp
        cases hh : hs row (t * 12 + p) with
        | false =>
          rw [hh] at c1
          obtain ⟨S1, g, fr⟩ := ih2 S hC
          refine ⟨S1, ?_, fr⟩
          rw [← Nat.add_assoc, cnt_f (f := br row) (by rw [ebr t p hp, hh]; rfl), nI_succ p, ← Int32.add_zero (nI (cnt (br row) (t * 12 + p)))] at g
          refine G_iload rfl rfl ?_
          refine G_bipush rfl ?_
          refine G_icmp_ge rfl (fun h => ?_) (fun h => ?_)
          · exact absurd h (ge_no hp (by decide))
          refine G_iload_n rfl rfl ?_
          refine G_aload_n rfl rfl ?_
          refine G_iload_n rfl rfl ?_
          refine G_iload rfl rfl ?_
          refine H_callV (c1) rfl rfl rfl rfl rfl rfl rfl rfl ?_
          refine G_if_eq rfl (fun h1 => ?_) (fun h1 => ?_)
          · skip
            refine G_iconst rfl ?_
            refine G_iadd rfl ?_
            refine H_ist_5_2 rfl rfl ?_
            refine H_inc_5_4 rfl rfl ?_
            refine G_goto rfl ?_
            exact g
          · exact absurd rfl h1
        | true =>
          rw [hh] at c1
          obtain ⟨S2, c2, f2⟩ := ev_mdoesHold S R hC (t := t) (p := p) (by omega) hp
          obtain ⟨S1, g, fr⟩ := ih2 S2 (by rw [f2 25 (by decide) (by decide)]; exact hC)
          refine ⟨S1, ?_, f2.tr fr⟩
          have e2 := ebr t p hp
          rw [hh, Bool.true_and] at e2
          rw [← e2] at c2
          rw [← Nat.add_assoc, nI_succ p] at g
          refine G_iload rfl rfl ?_
          refine G_bipush rfl ?_
          refine G_icmp_ge rfl (fun h => ?_) (fun h => ?_)
          · exact absurd h (ge_no hp (by decide))
          refine G_iload_n rfl rfl ?_
          refine G_aload_n rfl rfl ?_
          refine G_iload_n rfl rfl ?_
          refine G_iload rfl rfl ?_
          refine H_callV (c1) rfl rfl rfl rfl rfl rfl rfl rfl ?_
          refine G_if_eq rfl (fun h1 => ?_) (fun h1 => ?_)
          · exact absurd h1 (by decide)
          refine G_aload_n rfl rfl ?_
          refine G_iload_n rfl rfl ?_
          refine G_iload rfl rfl ?_
          refine H_callV (c2) rfl rfl rfl rfl rfl rfl rfl rfl ?_
          refine G_if_eq rfl (fun h2 => ?_) (fun h2 => ?_)
          · skip
            refine G_iconst rfl ?_
            refine G_iadd rfl ?_
            refine H_ist_5_2 rfl rfl ?_
            refine H_inc_5_4 rfl rfl ?_
            refine G_goto rfl ?_
            rw [cnt_f (b2i_0.mp h2), ← Int32.add_zero (nI (cnt (br row) (t * 12 + p)))] at g
            exact g
          · skip
            refine G_iconst rfl ?_
            refine G_goto rfl ?_
            refine G_iadd rfl ?_
            refine H_ist_5_2 rfl rfl ?_
            refine H_inc_5_4 rfl rfl ?_
            refine G_goto rfl ?_
            rw [cnt_t (b2i_n0.mp h2), nI_succ] at g
            exact g)
      obtain ⟨S1, g, fr⟩ := inner S hC
      refine ⟨S1, ?_, fr⟩
      refine G_iload_n rfl rfl ?_
      refine G_aload_n rfl rfl ?_
      refine H_getR rfl rfl rfl rfl rfl rfl ?_
      refine G_iconst rfl ?_
      refine H_iald rfl (rfl) (rfl) ((by decide)) (rfl) ?_
      refine G_icmp_ge rfl (fun h => ?_) (fun h => ?_)
      · exact absurd (by rw [← hC.2.2.1]; exact h) (ge_no ht (by omega))
      refine G_iconst rfl ?_
      refine H_ist_5_4 rfl rfl ?_
      exact g)
    obtain ⟨S1, g, fr⟩ := goal S hC none
    refine ⟨S1, ?_, fr⟩
    refine EvM_mk [some (.ref 24), some (.int w), none, none, none] rfl rfl rfl rfl rfl (trivial) ?_
    refine G_iload_n rfl rfl ?_
    refine G_iconst rfl ?_
    refine G_iconst rfl ?_
    refine H_callS (c0) rfl rfl rfl rfl rfl ?_
    refine G_if_ne rfl (fun h => ?_) (fun h => ?_)
    · skip
      refine G_iconst rfl ?_
      refine H_ist_5_2 rfl rfl ?_
      refine G_iconst rfl ?_
      refine H_ist_5_3 rfl rfl ?_
      exact g
    · exact absurd h (by decide)
theorem WS_add {q : Nat} {W : List Int32} {c : Int32} : u2 (WS S q W) 24 (upd (upd (WS S q W 24) 18 (if q = W.length then c else WS S q W 24 18)) 16 (nI W.length + 1)) = WS S q (W ++ [c]) := by
  unfold WS
  rw [u2_u2, u2_same, upd_same]
  congr 1
  funext z
  by_cases z18 : z = 18
  · subst z18
    rw [upd_ne (by decide), upd_same, upd_same, List.length_append]
    by_cases e : q = W.length
    · rw [if_pos e, if_pos (by simp; omega), e]; simp [List.getD]
    · rw [if_neg e]
      by_cases e2 : q < W.length
      · rw [if_pos e2, if_pos (by simp; omega)]; simp [List.getD, List.getElem?_append_left e2]
      · rw [if_neg e2, if_neg (by simp; omega)]
  · by_cases z16 : z = 16
    · subst z16
      rw [upd_same, upd_ne (by decide), upd_same, List.length_append, ← nI_succ]
      rfl
    · rw [upd_ne z16, upd_ne z18, upd_ne z18, upd_ne z16, upd_ne z18, upd_ne z16]
set_option maxRecDepth 100000 in
theorem ev_mwrites {q : Nat} {W : List Int32} (hW : W.length < 200) (hq : q < 2 ^ 31) (c : Int32) : EvM kM_writes [.ref 24, .int c] (mk (WS S q W) R) none (mk (WS S q (W ++ [c])) R) := by
  have e16 : WS S q W 24 16 = nI W.length := by unfold WS; rw [u2_same, upd_ne (by decide), upd_same]
  have e17 : WS S q W 24 17 = nI q := by unfold WS; rw [u2_same, upd_ne (by decide), upd_ne (by decide), upd_same]
  have ad := WS_add S (q := q) (W := W) (c := c)
  generalize WS S q W = Z at *
  refine EvM_mk [some (.ref 24), some (.int c)] rfl rfl rfl rfl rfl (trivial) ?_
  refine G_aload_n rfl rfl ?_
  refine G_aload_n rfl rfl ?_
  refine H_getI rfl rfl rfl rfl ?_
  refine G_aload_n rfl rfl ?_
  refine H_getI rfl rfl rfl rfl ?_
  refine G_icmp_ne rfl (fun h => ?_) (fun h => ?_)
  · have h1 : q ≠ W.length := fun e => h (by rw [e16, e17, e])
    rw [if_neg h1] at ad
    refine G_aload_n rfl rfl ?_
    refine H_getI rfl rfl rfl rfl ?_
    refine H_putI rfl rfl rfl rfl ?_
    refine G_aload_n rfl rfl ?_
    refine G_dup rfl rfl ?_
    refine H_getI rfl rfl rfl rfl ?_
    refine G_iconst rfl ?_
    refine G_iadd rfl ?_
    refine H_putI rfl rfl rfl rfl ?_
    exact H_retv rfl rfl ((by rw [← ad, u2_same, u2_u2, upd_ne (show 16 ≠ 18 by decide), e16]))
  · have h1 : q = W.length := by
      have h := Decidable.of_not_not h
      rw [e16, e17] at h
      exact ((nI_eq (show W.length < 2 ^ 31 by omega) hq).mp h).symm
    rw [if_pos h1] at ad
    refine G_iload_n rfl rfl ?_
    refine G_goto rfl ?_
    refine H_putI rfl rfl rfl rfl ?_
    refine G_aload_n rfl rfl ?_
    refine G_dup rfl rfl ?_
    refine H_getI rfl rfl rfl rfl ?_
    refine G_iconst rfl ?_
    refine G_iadd rfl ?_
    refine H_putI rfl rfl rfl rfl ?_
    exact H_retv rfl rfl ((by rw [← ad, u2_same, u2_u2, upd_ne (show 16 ≠ 18 by decide), e16]))
set_option maxRecDepth 100000 in
theorem ev_mwritesNumber {q : Nat} {W : List Int32} (hW : W.length < 190) (hq : q < 2 ^ 31) {v : Int32} (hv : isNb v = true) : EvM kM_writesNumber [.ref 24, .int v] (mk (WS S q W) R) none (mk (WS S q (W ++ digs v)) R) := by
  have hb := isNb_iff.mp hv
  obtain ⟨k, hk, ek⟩ : ∃ k, k < 1000 ∧ (if v < 0 then -v else v) = nI k := by
    by_cases h : v < 0
    · rw [if_pos h]
      rw [Int32.lt_iff_toInt_lt, show (0 : Int32).toInt = 0 by decide] at h
      have e := neg_b (x := v) (by omega) (by omega)
      refine lt_ix 1000 (by decide) ?_ ?_
      · rw [Int32.lt_iff_toInt_lt, e, show (0 : Int32).toInt = 0 by decide]; omega
      · rw [Int32.le_iff_toInt_le, e, nI_toInt (by decide)]; omega
    · rw [if_neg h]
      refine lt_ix 1000 (by decide) h ?_
      rw [Int32.le_iff_toInt_le, nI_toInt (by decide)]; omega
  unfold digs
  rw [ek, mdg_eq hk]
  have tail : ∀ W : List Int32, W.length < 195 → Gm kM_writesNumber 21 [some (.ref 24), some (.int v), some (.int (nI k))] [] (WS S q W, PF R, 32) none (WS S q (W ++ mdg (nI k)), PF R, 32) := fun W hW => by
    have t3 : ∀ W : List Int32, W.length < 198 → Gm kM_writesNumber 58 [some (.ref 24), some (.int v), some (.int (nI k))] [] (WS S q W, PF R, 32) none (WS S q (W ++ [48 + (nI k - nI k / 10 * 10)]), PF R, 32) := fun W hW => by
      refine G_aload_n rfl rfl ?_
      refine G_bipush rfl ?_
      refine G_iload_n rfl rfl ?_
      refine G_bipush rfl ?_
      refine G_irem rfl (by decide) ?_
      refine G_iadd rfl ?_
      refine H_callU (ev_mwrites S R (W := W) (by omega) hq (48 + (nI k - nI k / 10 * 10))) rfl rfl rfl rfl rfl rfl rfl rfl ?_
      exact H_retv rfl rfl (rfl)
    have t2 : ∀ W : List Int32, W.length < 197 → Gm kM_writesNumber 38 [some (.ref 24), some (.int v), some (.int (nI k))] [] (WS S q W, PF R, 32) none (WS S q (W ++ ((if nI k ≤ 9 then [] else [48 + (nI k / 10 - nI k / 10 / 10 * 10)]) ++ [48 + (nI k - nI k / 10 * 10)])), PF R, 32) := fun W hW => by
      refine G_iload_n rfl rfl ?_
      refine G_bipush rfl ?_
      refine G_icmp_le rfl (fun h => ?_) (fun h => ?_)
      · rw [if_pos h, List.nil_append]; exact t3 W (by omega)
      · rw [if_neg h, ← List.append_assoc]
        refine G_aload_n rfl rfl ?_
        refine G_bipush rfl ?_
        refine G_iload_n rfl rfl ?_
        refine G_bipush rfl ?_
        refine G_idiv rfl (by decide) ?_
        refine G_bipush rfl ?_
        refine G_irem rfl (by decide) ?_
        refine G_iadd rfl ?_
        refine H_callU (ev_mwrites S R (W := W) (by omega) hq (48 + (nI k / 10 - nI k / 10 / 10 * 10))) rfl rfl rfl rfl rfl rfl rfl rfl ?_
        exact t3 _ (by simp; omega)
    unfold mdg
    refine G_iload_n rfl rfl ?_
    refine G_bipush rfl ?_
    refine G_icmp_le rfl (fun h => ?_) (fun h => ?_)
    · rw [if_pos h, List.nil_append]; exact t2 W (by omega)
    · rw [if_neg h, ← List.append_assoc W]
      refine G_aload_n rfl rfl ?_
      refine G_bipush rfl ?_
      refine G_iload_n rfl rfl ?_
      refine G_bipush rfl ?_
      refine G_idiv rfl (by decide) ?_
      refine G_iadd rfl ?_
      refine H_callU (ev_mwrites S R (W := W) (by omega) hq (48 + nI k / 100)) rfl rfl rfl rfl rfl rfl rfl rfl ?_
      exact t2 _ (by simp; omega)
  refine EvM_mk [some (.ref 24), some (.int v), none] rfl rfl rfl rfl rfl (trivial) ?_
  refine G_iload_n rfl rfl ?_
  refine G_if_ge rfl (fun h => ?_) (fun h => ?_)
  · have h' : ¬ v < 0 := Int32.not_lt.mpr h
    rw [if_neg h'] at ek
    rw [if_neg h', List.nil_append]
    refine G_iload_n rfl rfl ?_
    refine H_ist_3_2 rfl rfl ?_
    refine G_iload_n rfl rfl ?_
    refine G_if_ge rfl (fun h2 => ?_) (fun h2 => ?_)
    · rw [ek]
      rw [ek] at tail
      exact tail W (by omega)
    · exact absurd h h2
  · have h' : v < 0 := Int32.not_le.mp h
    rw [if_pos h'] at ek
    rw [if_pos h', ← List.append_assoc]
    refine G_iload_n rfl rfl ?_
    refine G_ineg rfl ?_
    refine G_goto rfl ?_
    refine H_ist_3_2 rfl rfl ?_
    rw [ek]
    refine G_iload_n rfl rfl ?_
    refine G_if_ge rfl (fun h2 => ?_) (fun h2 => ?_)
    · exact absurd h2 h
    · skip
      refine G_aload_n rfl rfl ?_
      refine G_bipush rfl ?_
      refine H_callU (ev_mwrites S R (W := W) (by omega) hq 45) rfl rfl rfl rfl rfl rfl rfl rfl ?_
      exact tail _ (by simp; omega)
end ML6
