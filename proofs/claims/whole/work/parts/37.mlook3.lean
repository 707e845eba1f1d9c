/-! the document's own reckoning: the greatest way, clusters, count -/
noncomputable def gm (row π : Nat → Int32) : Nat → Int32
  | 0 => 0
  | m + 1 => bif cB row (m / 12) (m % 12) && decide (gm row π m < π (m % 12) - π (m / 12)) then π (m % 12) - π (m / 12) else gm row π m
/-- M is the greatest of 0 and the ways that A tells -/
def MX (A : Int32 → Prop) (M : Int32) : Prop := 0 ≤ M ∧ (∀ v, A v → v ≤ M) ∧ (M = 0 ∨ A M)
theorem MX_eq {A B : Int32 → Prop} {M N : Int32} (h : ∀ v, A v ↔ B v) (h1 : MX A M) (h2 : MX B N) : M = N := by
  obtain ⟨a1, a2, a3⟩ := h1
  obtain ⟨b1, b2, b3⟩ := h2
  refine Int32.le_antisymm ?_ ?_
  · obtain e | e := a3
    · rw [e]; exact b1
    · exact b2 _ ((h _).mp e)
  · obtain e | e := b3
    · rw [e]; exact a1
    · exact a2 _ ((h _).mpr e)
theorem MX_s {A B : Int32 → Prop} {M v : Int32} {c : Bool} (hB : ∀ x, B x ↔ A x ∨ (c = true ∧ x = v)) (h : MX A M) : MX B (bif c && decide (M < v) then v else M) := by
  obtain ⟨a1, a2, a3⟩ := h
  cases hc : c with
  | false =>
    rw [Bool.false_and, cond_false]
    refine ⟨a1, fun x hx => ?_, a3.imp id (fun q => (hB M).mpr (Or.inl q))⟩
    obtain q | ⟨q, -⟩ := (hB x).mp hx
    · exact a2 x q
    · rw [hc] at q; cases q
  | true =>
    rw [Bool.true_and]
    by_cases h1 : M < v
    · rw [decide_eq_true h1, cond_true]
      refine ⟨Int32.le_trans a1 (Int32.le_of_lt h1), fun x hx => ?_, Or.inr ((hB v).mpr (Or.inr ⟨hc, rfl⟩))⟩
      obtain q | ⟨-, q⟩ := (hB x).mp hx
      · exact Int32.le_trans (a2 x q) (Int32.le_of_lt h1)
      · rw [q]; exact Int32.le_refl _
    · rw [decide_eq_false h1, cond_false]
      refine ⟨a1, fun x hx => ?_, a3.imp id (fun q => (hB M).mpr (Or.inl q))⟩
      obtain q | ⟨-, q⟩ := (hB x).mp hx
      · exact a2 x q
      · rw [q]; exact Int32.not_lt.mp h1
theorem gm_mx (row π : Nat → Int32) : ∀ m, MX (fun v => ∃ k, k < m ∧ cB row (k / 12) (k % 12) = true ∧ v = π (k % 12) - π (k / 12)) (gm row π m)
  | 0 => ⟨Int32.le_refl _, fun v ⟨k, h, _⟩ => absurd h (Nat.not_lt_zero k), Or.inl rfl⟩
  | m + 1 => by
    rw [gm]
    refine MX_s (fun x => ⟨fun ⟨k, h1, h2, h3⟩ => ?_, ?_⟩) (gm_mx row π m)
    · by_cases e : k = m
      · subst e; exact Or.inr ⟨h2, h3⟩
      · exact Or.inl ⟨k, by omega, h2, h3⟩
    · rintro (⟨k, h1, h2, h3⟩ | ⟨h2, h3⟩)
      · exact ⟨k, by omega, h2, h3⟩
      · exact ⟨m, by omega, h2, h3⟩
theorem pF_mx (row π : Nat → Int32) (p : Nat) : ∀ n, MX (fun v => ∃ k, k < n ∧ cB row p k = true ∧ v = π p - π k) (pF row π p n)
  | 0 => ⟨Int32.le_refl _, fun v ⟨k, h, _⟩ => absurd h (Nat.not_lt_zero k), Or.inl rfl⟩
  | n + 1 => by
    rw [pF]
    refine MX_s (fun x => ⟨fun ⟨k, h1, h2, h3⟩ => ?_, ?_⟩) (pF_mx row π p n)
    · by_cases e : k = n
      · subst e; exact Or.inr ⟨h2, h3⟩
      · exact Or.inl ⟨k, by omega, h2, h3⟩
    · rintro (⟨k, h1, h2, h3⟩ | ⟨h2, h3⟩)
      · exact ⟨k, by omega, h2, h3⟩
      · exact ⟨n, by omega, h2, h3⟩
theorem pM_mx (row π : Nat → Int32) : ∀ n, MX (fun v => ∃ p k, p < n ∧ k < 12 ∧ cB row p k = true ∧ v = π p - π k) (pM row π n)
  | 0 => ⟨Int32.le_refl _, fun v ⟨p, k, h, _⟩ => absurd h (Nat.not_lt_zero p), Or.inl rfl⟩
  | n + 1 => by
    obtain ⟨a1, a2, a3⟩ := pM_mx row π n
    obtain ⟨b1, b2, b3⟩ := pF_mx row π n 12
    rw [pM]
    by_cases h : pM row π n < pF row π n 12
    · rw [if_pos h]
      refine ⟨b1, fun v ⟨p, k, h1, h2, h3, h4⟩ => ?_, b3.imp id fun ⟨k, h1, h2, h3⟩ => ⟨n, k, by omega, h1, h2, h3⟩⟩
      by_cases e : p = n
      · subst e; exact b2 v ⟨k, h2, h3, h4⟩
      · exact Int32.le_trans (a2 v ⟨p, k, by omega, h2, h3, h4⟩) (Int32.le_of_lt h)
    · rw [if_neg h]
      refine ⟨a1, fun v ⟨p, k, h1, h2, h3, h4⟩ => ?_, a3.imp id fun ⟨p, k, h1, h2, h3, h4⟩ => ⟨p, k, by omega, h2, h3, h4⟩⟩
      by_cases e : p = n
      · subst e; exact Int32.le_trans (b2 v ⟨k, h2, h3, h4⟩) (Int32.not_lt.mp h)
      · exact a2 v ⟨p, k, by omega, h2, h3, h4⟩
theorem gm_pM (row π : Nat → Int32) : gm row π 144 = pM row π 12 := MX_eq (fun v => ⟨fun ⟨k, h1, h2, h3⟩ => ⟨k % 12, k / 12, by omega, by omega, by rw [cB_sy]; exact h2, h3⟩, fun ⟨p, k, h1, h2, h3, h4⟩ => ⟨k * 12 + p, by omega, by rw [show (k * 12 + p) / 12 = k by omega, show (k * 12 + p) % 12 = p by omega, cB_sy]; exact h3, by rw [show (k * 12 + p) / 12 = k by omega, show (k * 12 + p) % 12 = p by omega]; exact h4⟩⟩) (gm_mx row π 144) (pM_mx row π 12)
theorem cnt_add (f : Nat → Bool) (a : Nat) : ∀ b, cnt f (a + b) = cnt f a + cnt (fun i => f (a + i)) b
  | 0 => rfl
  | b + 1 => by
    have ih := cnt_add f a b
    cases h : f (a + b) with
    | true => rw [← Nat.add_assoc, cnt_t h, cnt_t (f := fun i => f (a + i)) h, ih]; omega
    | false => rw [← Nat.add_assoc, cnt_f h, cnt_f (f := fun i => f (a + i)) h, ih]
theorem tAll_c {row : Nat → Int32} : ∀ n, n ≤ 8 → tAll row n = cnt (hs row) (n * 12)
  | 0, _ => rfl
  | n + 1, h => by
    have ih := tAll_c (row := row) n (by omega)
    have e : tAll row (n + 1) = tAll row n + tOf row (nI n) 12 := rfl
    rw [e, ih, show (n + 1) * 12 = n * 12 + 12 by omega, cnt_add]
    exact congrArg _ (cnt_congr (fun i hi => tHas_nI (by omega) hi))
theorem tAll_cnt {row : Nat → Int32} {T : Nat} (hT : NT row T) : tAll row T = cnt (hs row) 96 := by
  have hT8 := hT.2.1
  rw [tAll_c T hT8]
  have := cnt_cut (f := hs row) (a := T * 12) (96 - T * 12) (fun i h1 h2 => by
    cases h : hs row i with
    | false => rfl
    | true => exact absurd (hT.2.2 i h1 (by omega)) (hs_ne.mp h))
  rw [show T * 12 + (96 - T * 12) = 96 by omega] at this
  exact this.symm
section ML3
variable (S : Nat → Nat → Int32) (R : Nat → Nat) {row : Nat → Int32} {T : Nat} {π : Nat → Int32}
set_option maxRecDepth 100000 in
theorem ev_mgreatest (hC : CS row T (S 25)) (hπ : Pot row π) : ∃ S1, EvM kM_greatest [.ref 24] (mk S R) (some (.int (pM row π 12))) (mk S1 R) ∧ sFr S S1 := by
  rw [← gm_pM]
  have goal := down 12 (fun p => ∀ S : Nat → Nat → Int32, CS row T (S 25) → ∀ l3, ∃ S1, Gm kM_greatest 4 [some (.ref 24), some (.int (gm row π (p * 12))), some (.int (nI p)), l3] [] (S, PF R, 32) (some (.int (gm row π 144))) (S1, PF R, 32) ∧ sFr S S1) (fun S hC l3 => by
    refine ⟨S, ?_, .rf⟩
    refine G_iload_n rfl rfl ?_
    refine G_bipush rfl ?_
    refine G_icmp_ge rfl (fun h => ?_) (fun h => ?_)
    · skip
      refine G_iload_n rfl rfl ?_
      exact H_ret rfl rfl (rfl) (rfl)
    · exact absurd (by decide) h) (fun p hp ih S hC l3 => by
    obtain ⟨S1, c1, f1, m1⟩ := ev_mspreads S R hC (a := p) (by omega)
    obtain ⟨S2, g, f2⟩ := ih S1 (by rw [f1 25 (by decide) (by decide)]; exact hC) (some (.int (nI 12)))
    rw [show (p + 1) * 12 = p * 12 + 12 by omega, nI_succ] at g
    have inner : Gm kM_greatest 17 [some (.ref 24), some (.int (gm row π (p * 12 + 0))), some (.int (nI p)), some (.int (nI 0))] [] (S1, PF R, 32) (some (.int (gm row π 144))) (S2, PF R, 32) := by
      refine down 12 (fun q => Gm kM_greatest 17 [some (.ref 24), some (.int (gm row π (p * 12 + q))), some (.int (nI p)), some (.int (nI q))] [] (S1, PF R, 32) (some (.int (gm row π 144))) (S2, PF R, 32)) ?_ (fun q hq ih2 => ?_)
      · skip
        refine G_iload_n rfl rfl ?_
        refine G_bipush rfl ?_
        refine G_icmp_ge rfl (fun h => ?_) (fun h => ?_)
        · skip
          refine H_inc_4_2 rfl rfl ?_
          refine G_goto rfl ?_
          exact g
        · exact absurd (by decide) h
      · have hm := m1.1 q (by omega)
        rw [← Nat.add_assoc, gm, show (p * 12 + q) / 12 = p by omega, show (p * 12 + q) % 12 = q by omega, nI_succ q] at ih2
        refine G_iload_n rfl rfl ?_
        refine G_bipush rfl ?_
        refine G_icmp_ge rfl (fun h => ?_) (fun h => ?_)
        · exact absurd h (ge_no hq (by decide))
        refine G_aload_n rfl rfl ?_
        refine H_getR rfl rfl rfl rfl rfl rfl ?_
        refine G_iload_n rfl rfl ?_
        refine H_bald rfl (rfl) (rfl) ((by omega)) (rfl) ?_
        rw [hm]
        refine G_if_eq rfl (fun h1 => ?_) (fun h1 => ?_)
        · skip
          refine G_iload_n rfl rfl ?_
          refine H_ist_4_1 rfl rfl ?_
          refine H_inc_4_3 rfl rfl ?_
          refine G_goto rfl ?_
          rw [b2i_0.mp h1, Bool.false_and, cond_false] at ih2
          exact ih2
        have h1 := b2i_n0.mp h1
        have hv := (m1.2 q (by omega) h1).1 π hπ
        rw [h1, Bool.true_and] at ih2
        refine G_aload_n rfl rfl ?_
        refine H_getR rfl rfl rfl rfl rfl rfl ?_
        refine G_iload_n rfl rfl ?_
        refine H_iald rfl (rfl) (rfl) ((by omega)) (rfl) ?_
        rw [hv]
        refine G_iload_n rfl rfl ?_
        refine G_icmp_le rfl (fun h2 => ?_) (fun h2 => ?_)
        · skip
          refine G_iload_n rfl rfl ?_
          refine H_ist_4_1 rfl rfl ?_
          refine H_inc_4_3 rfl rfl ?_
          refine G_goto rfl ?_
          rw [decide_eq_false (Int32.not_lt.mpr h2), cond_false] at ih2
          exact ih2
        refine G_aload_n rfl rfl ?_
        refine H_getR rfl rfl rfl rfl rfl rfl ?_
        refine G_iload_n rfl rfl ?_
        refine H_iald rfl (rfl) (rfl) ((by omega)) (rfl) ?_
        rw [hv]
        refine G_goto rfl ?_
        refine H_ist_4_1 rfl rfl ?_
        refine H_inc_4_3 rfl rfl ?_
        refine G_goto rfl ?_
        rw [decide_eq_true (Int32.not_le.mp h2), cond_true] at ih2
        exact ih2
    refine ⟨S2, ?_, f1.tr f2⟩
    refine G_iload_n rfl rfl ?_
    refine G_bipush rfl ?_
    refine G_icmp_ge rfl (fun h => ?_) (fun h => ?_)
    · exact absurd h (ge_no hp (by decide))
    refine G_aload_n rfl rfl ?_
    refine G_iload_n rfl rfl ?_
    refine H_callU (c1) rfl rfl rfl rfl rfl rfl rfl rfl ?_
    refine G_iconst rfl ?_
    refine H_ist_4_3 rfl rfl ?_
    exact inner)
  obtain ⟨S1, g, fr⟩ := goal S hC none
  refine ⟨S1, ?_, fr⟩
  refine EvM_mk [some (.ref 24), none, none, none] rfl rfl rfl rfl rfl (trivial) ?_
  refine G_iconst rfl ?_
  refine H_ist_4_1 rfl rfl ?_
  refine G_iconst rfl ?_
  refine H_ist_4_2 rfl rfl ?_
  exact g
noncomputable def lowW (row : Nat → Int32) (T : Nat) (b : Bool) (p : Nat) : Bool := lowB row p && (!b || decide (0 < tAtP row (nI p) T))
set_option maxRecDepth 100000 in
theorem ev_mclusters (hC : CS row T (S 25)) (b : Bool) : ∃ S1, EvM kM_clusters [.ref 24, .int (b2i b)] (mk S R) (some (.int (nI (cnt (lowW row T b) 12)))) (mk S1 R) ∧ sFr S S1 := by
  have hT8 := hC.1.2.1
  have goal := down 12 (fun p => ∀ S : Nat → Nat → Int32, CS row T (S 25) → ∀ l4 l5, ∃ S1, Gm kM_clusters 4 [some (.ref 24), some (.int (b2i b)), some (.int (nI (cnt (lowW row T b) p))), some (.int (nI p)), l4, l5] [] (S, PF R, 32) (some (.int (nI (cnt (lowW row T b) 12)))) (S1, PF R, 32) ∧ sFr S S1) (fun S hC l4 l5 => by
    refine ⟨S, ?_, .rf⟩
    refine G_iload_n rfl rfl ?_
    refine G_bipush rfl ?_
    refine G_icmp_ge rfl (fun h => ?_) (fun h => ?_)
    · skip
      refine G_iload_n rfl rfl ?_
      exact H_ret rfl rfl (rfl) (rfl)
    · exact absurd (by decide) h) (fun p hp ih S hC l4 l5 => by
    obtain ⟨S1, c1, f1, m1⟩ := ev_mspreads S R hC (a := p) (by omega)
    have hC1 : CS row T (S1 25) := by rw [f1 25 (by decide) (by decide)]; exact hC
    obtain ⟨S2, g, f2⟩ := ih S1 hC1 (some (.int (b2i (lowB row p)))) (some (.int (nI p)))
    rw [nI_succ p] at g
    have hlt : tAtP row (nI p) T < 2 ^ 31 := by have := cnt_le (fun j => tHas row (nI j) (nI p)) T; unfold tAtP; omega
    have no : lowW row T b p = false → Gm kM_clusters 77 [some (.ref 24), some (.int (b2i b)), some (.int (nI (cnt (lowW row T b) p))), some (.int (nI p)), some (.int (b2i (lowB row p))), some (.int (nI p))] [.int (nI (cnt (lowW row T b) p))] (S1, PF R, 32) (some (.int (nI (cnt (lowW row T b) 12)))) (S2, PF R, 32) := fun e => by
      refine G_iconst rfl ?_
      refine G_iadd rfl ?_
      refine H_ist_6_2 rfl rfl ?_
      refine H_inc_6_3 rfl rfl ?_
      refine G_goto rfl ?_
      rw [cnt_f e, ← Int32.add_zero (nI (cnt (lowW row T b) p))] at g
      exact g
    have yes : lowW row T b p = true → Gm kM_clusters 73 [some (.ref 24), some (.int (b2i b)), some (.int (nI (cnt (lowW row T b) p))), some (.int (nI p)), some (.int (b2i (lowB row p))), some (.int (nI p))] [.int (nI (cnt (lowW row T b) p))] (S1, PF R, 32) (some (.int (nI (cnt (lowW row T b) 12)))) (S2, PF R, 32) := fun e => by
      refine G_iconst rfl ?_
      refine G_goto rfl ?_
      refine G_iadd rfl ?_
      refine H_ist_6_2 rfl rfl ?_
      refine H_inc_6_3 rfl rfl ?_
      refine G_goto rfl ?_
      rw [cnt_t e, nI_succ] at g
      exact g
    have inner : Gm kM_clusters 21 [some (.ref 24), some (.int (b2i b)), some (.int (nI (cnt (lowW row T b) p))), some (.int (nI p)), some (.int (b2i (decide (cnt (fun o => cB row o p) 0 = 0)))), some (.int (nI 0))] [] (S1, PF R, 32) (some (.int (nI (cnt (lowW row T b) 12)))) (S2, PF R, 32) := by
      refine down p (fun q => Gm kM_clusters 21 [some (.ref 24), some (.int (b2i b)), some (.int (nI (cnt (lowW row T b) p))), some (.int (nI p)), some (.int (b2i (decide (cnt (fun o => cB row o p) q = 0)))), some (.int (nI q))] [] (S1, PF R, 32) (some (.int (nI (cnt (lowW row T b) 12)))) (S2, PF R, 32)) ?_ (fun q hq ih2 => ?_)
      · show Gm kM_clusters 21 [some (.ref 24), some (.int (b2i b)), some (.int (nI (cnt (lowW row T b) p))), some (.int (nI p)), some (.int (b2i (lowB row p))), some (.int (nI p))] [] (S1, PF R, 32) (some (.int (nI (cnt (lowW row T b) 12)))) (S2, PF R, 32)
        refine G_iload rfl rfl ?_
        refine G_iload_n rfl rfl ?_
        refine G_icmp_ge rfl (fun h => ?_) (fun h => ?_)
        · skip
          refine G_iload_n rfl rfl ?_
          refine G_iload rfl rfl ?_
          refine G_if_eq rfl (fun h1 => ?_) (fun h1 => ?_)
          · exact no (by rw [lowW, b2i_0.mp h1]; rfl)
          have h1 := b2i_n0.mp h1
          refine G_iload_n rfl rfl ?_
          refine G_if_eq rfl (fun h2 => ?_) (fun h2 => ?_)
          · exact yes (by rw [lowW, h1, b2i_0.mp h2]; rfl)
          have h2 := b2i_n0.mp h2
          refine G_aload_n rfl rfl ?_
          refine G_iload_n rfl rfl ?_
          refine H_callV (ev_mtapesAt S1 R hC1 hp) rfl rfl rfl rfl rfl rfl rfl rfl ?_
          refine G_if_le rfl (fun h3 => ?_) (fun h3 => ?_)
          · exact no (by rw [lowW, decide_eq_false (fun q => absurd h3 (ge_no q (by omega))), h2, Bool.not_true, Bool.or_false, Bool.and_false])
          · exact yes (by rw [lowW, h1, decide_eq_true (Decidable.byContradiction fun q => h3 (nI_le (b := 0) (by omega) (by omega))), Bool.or_true]; rfl)
        · exact absurd (Int32.le_refl _) h
      · have hm := m1.1 q (by omega)
        rw [cB_sy] at hm
        rw [nI_succ q] at ih2
        refine G_iload rfl rfl ?_
        refine G_iload_n rfl rfl ?_
        refine G_icmp_ge rfl (fun h => ?_) (fun h => ?_)
        · exact absurd h (ge_no hq (by omega))
        refine G_iload rfl rfl ?_
        refine G_if_eq rfl (fun h1 => ?_) (fun h1 => ?_)
        · skip
          refine G_iconst rfl ?_
          refine H_ist_6_4 rfl rfl ?_
          refine H_inc_6_5 rfl rfl ?_
          refine G_goto rfl ?_
          have e := of_decide_eq_false (b2i_0.mp h1)
          rw [decide_eq_false (fun z => e (cnt_0.mpr (fun i hi => cnt_0.mp z i (by omega))))] at ih2
          exact ih2
        have h1 := of_decide_eq_true (b2i_n0.mp h1)
        refine G_aload_n rfl rfl ?_
        refine H_getR rfl rfl rfl rfl rfl rfl ?_
        refine G_iload rfl rfl ?_
        refine H_bald rfl (rfl) (rfl) ((by omega)) (rfl) ?_
        rw [hm]
        refine G_if_ne rfl (fun h2 => ?_) (fun h2 => ?_)
        · skip
          refine G_iconst rfl ?_
          refine H_ist_6_4 rfl rfl ?_
          refine H_inc_6_5 rfl rfl ?_
          refine G_goto rfl ?_
          rw [cnt_t (f := fun o => cB row o p) (b2i_n0.mp h2), decide_eq_false (by omega)] at ih2
          exact ih2
        · skip
          refine G_iconst rfl ?_
          refine G_goto rfl ?_
          refine H_ist_6_4 rfl rfl ?_
          refine H_inc_6_5 rfl rfl ?_
          refine G_goto rfl ?_
          rw [cnt_f (f := fun o => cB row o p) (b2i_0.mp (Decidable.of_not_not h2)), h1] at ih2
          exact ih2
    refine ⟨S2, ?_, f1.tr f2⟩
    refine G_iload_n rfl rfl ?_
    refine G_bipush rfl ?_
    refine G_icmp_ge rfl (fun h => ?_) (fun h => ?_)
    · exact absurd h (ge_no hp (by decide))
    refine G_aload_n rfl rfl ?_
    refine G_iload_n rfl rfl ?_
    refine H_callU (c1) rfl rfl rfl rfl rfl rfl rfl rfl ?_
    refine G_iconst rfl ?_
    refine H_ist_6_4 rfl rfl ?_
    refine G_iconst rfl ?_
    refine H_ist_6_5 rfl rfl ?_
    exact inner)
  obtain ⟨S1, g, fr⟩ := goal S hC none none
  refine ⟨S1, ?_, fr⟩
  refine EvM_mk [some (.ref 24), some (.int (b2i b)), none, none, none, none] rfl rfl rfl rfl rfl (trivial) ?_
  refine G_iconst rfl ?_
  refine H_ist_6_2 rfl rfl ?_
  refine G_iconst rfl ?_
  refine H_ist_6_3 rfl rfl ?_
  exact g
end ML3
