/-! the document's own reckoning: count, point -/
theorem low_ex {row : Nat → Int32} {T j : Nat} (hT : NT row T) (hj : j < 96) (hh : hs row j = true) : ∃ p, p < 12 ∧ lowR row T p = true := by
  have hT8 := hT.2.1
  have at1 : ∀ i, i < 96 → hs row i = true → 0 < tAtP row (nI (i % 12)) T := fun i hi h => by
    refine Nat.pos_of_ne_zero (fun z => ?_)
    have iT : i < T * 12 := Decidable.byContradiction fun q => hs_ne.mp h (hT.2.2 i (by omega) hi)
    have := cnt_0.mp z (i / 12) (by omega)
    rw [tHas_nI (by omega) (by omega), show i / 12 * 12 + i % 12 = i by omega, h] at this
    cases this
  have main : ∀ p, p < 12 → cB row p (j % 12) = true → ∃ p, p < 12 ∧ lowR row T p = true := by
    intro p
    induction p using Nat.strongRecOn with
    | ind p ih =>
      intro hp hc
      by_cases z : cnt (fun o => cB row o p) p = 0
      · refine ⟨p, hp, ?_⟩
        unfold lowR lowB
        rw [decide_eq_true z, Bool.true_and, decide_eq_true_eq]
        by_cases e : p = j % 12
        · rw [e]; exact at1 j hj hh
        · refine Decidable.byContradiction fun q => ?_
          have no : ∀ i, i < 96 → hs row i = true → i % 12 ≠ p := fun i hi h ei => q (by have := at1 i hi h; rw [ei] at this; exact this)
          refine absurd (cB_iff.mp hc (fun x => x = p) (fun i hi h => ?_) rfl) (fun q => e q.symm)
          have := no i hi h
          exact ⟨fun _ => by omega, fun _ => by omega⟩
      · have : ¬ ∀ i, i < p → cB row i p = false := fun q => z (cnt_0.mpr q)
        have : ∃ i, i < p ∧ cB row i p = true := Classical.byContradiction fun q => this (fun i hi => by
          cases h : cB row i p with
          | false => rfl
          | true => exact absurd ⟨i, hi, h⟩ q)
        obtain ⟨i, hi, h⟩ := this
        exact ih i hi (by omega) (cB_iff.mpr ((cB_iff.mp h).tr (cB_iff.mp hc)))
  exact main (j % 12) (by omega) (cB_iff.mpr Cn.rf)
theorem low_no {row : Nat → Int32} {T : Nat} (hT : NT row T) (h : cnt (hs row) 96 = 0) : cnt (lowR row T) 12 = 0 := by
  have hT8 := hT.2.1
  refine cnt_0.mpr (fun p hp => ?_)
  have : tAtP row (nI p) T = 0 := cnt_0.mpr (fun i hi => by rw [tHas_nI (by omega) hp]; exact cnt_0.mp h _ (by omega))
  unfold lowR
  rw [this]
  simp
noncomputable def ff (row π : Nat → Int32) (p : Nat) : Nat → Int32
  | 0 => 0
  | i + 1 => bif cB row p i && decide (π i - π p < ff row π p i) then π i - π p else ff row π p i
theorem neg_b {x : Int32} (h1 : -20000 ≤ x.toInt) (h2 : x.toInt ≤ 20000) : (-x).toInt = -x.toInt := by
  rw [Int32.toInt_neg]
  exact Int.bmod_eq_of_le (by omega) (by omega)
theorem ff_pF {row π : Nat → Int32} {p : Nat} (hb : ∀ i, i < 12 → cB row p i = true → -19980 ≤ (π i - π p).toInt ∧ (π i - π p).toInt ≤ 19980) : ∀ n, n ≤ 12 → pF row π p n = -ff row π p n ∧ -19980 ≤ (ff row π p n).toInt ∧ (ff row π p n).toInt ≤ 0
  | 0, _ => ⟨show (0 : Int32) = -0 by decide, show -19980 ≤ (0 : Int32).toInt by decide, show (0 : Int32).toInt ≤ 0 by decide⟩
  | n + 1, h => by
    obtain ⟨h1, h2, h3⟩ := ff_pF hb n (by omega)
    rw [pF, ff]
    cases hc : cB row p n with
    | false => exact ⟨h1, h2, h3⟩
    | true =>
      obtain ⟨b1, b2⟩ := hb n (by omega) hc
      rw [Bool.true_and, Bool.true_and, h1]
      have e : π p - π n = -(π n - π p) := by grind
      rw [e]
      generalize π n - π p = v at *
      generalize ff row π p n = f at *
      have e2 : (-f < -v) ↔ v < f := by
        rw [Int32.lt_iff_toInt_lt, Int32.lt_iff_toInt_lt, neg_b (by omega) (by omega), neg_b (by omega) (by omega)]
        omega
      by_cases q : v < f
      · rw [decide_eq_true q, decide_eq_true (e2.mpr q), cond_true, cond_true]
        rw [Int32.lt_iff_toInt_lt] at q
        exact ⟨rfl, b1, by omega⟩
      · rw [decide_eq_false q, decide_eq_false (fun z => q (e2.mp z)), cond_false, cond_false]
        exact ⟨rfl, h2, h3⟩
section ML4
variable (S : Nat → Nat → Int32) (R : Nat → Nat) {row : Nat → Int32} {T : Nat} {π : Nat → Int32}
set_option maxRecDepth 100000 in
theorem ml_count (hC : CR row T (S 25)) (hπ : Pot row π) {n m : Nat} (hn : S 24 6 = nI n) (hm : S 24 2 = nI m) (w : Int32) : ∃ S1, EvM kM_count [.ref 24, .int w] (mk S R) (some (.int (a_count row π T n m w))) (mk S1 R) ∧ sFr S S1 := by
  have hT8 := hC.1.2.1
  unfold a_count
  by_cases wo : w < 0 ∨ 13 < w
  · refine ⟨S, ?_, .rf⟩
    rw [show (decide (¬ w < 0) && decide (¬ 13 < w)) = false by rcases wo with q | q <;> simp [q]]
    refine EvM_mk [some (.ref 24), some (.int w)] rfl rfl rfl rfl rfl (trivial) ?_
    refine G_iload_n rfl rfl ?_
    refine G_switch rfl rfl rfl (And.intro (fun h => ?_) (And.intro (fun h => ?_) (And.intro (fun h => ?_) (And.intro (fun h => ?_) (And.intro (fun h => ?_) (And.intro (fun h => ?_) (And.intro (fun h => ?_) (And.intro (fun h => ?_) (And.intro (fun h => ?_) (And.intro (fun h => ?_) (And.intro (fun h => ?_) (And.intro (fun h => ?_) (And.intro (fun h => ?_) (And.intro (fun h => ?_) trivial)))))))))))))) (fun h => ?_)
    · rw [h] at wo; exact absurd wo (by decide)
    · rw [h] at wo; exact absurd wo (by decide)
    · rw [h] at wo; exact absurd wo (by decide)
    · rw [h] at wo; exact absurd wo (by decide)
    · rw [h] at wo; exact absurd wo (by decide)
    · rw [h] at wo; exact absurd wo (by decide)
    · rw [h] at wo; exact absurd wo (by decide)
    · rw [h] at wo; exact absurd wo (by decide)
    · rw [h] at wo; exact absurd wo (by decide)
    · rw [h] at wo; exact absurd wo (by decide)
    · rw [h] at wo; exact absurd wo (by decide)
    · rw [h] at wo; exact absurd wo (by decide)
    · rw [h] at wo; exact absurd wo (by decide)
    · rw [h] at wo; exact absurd wo (by decide)
    · skip
      refine G_iconst rfl ?_
      exact H_ret rfl rfl (rfl) (rfl)
  · have w1 : ¬ w < 0 := fun q => wo (Or.inl q)
    have w2 : ¬ 13 < w := fun q => wo (Or.inr q)
    rw [decide_eq_true w1, decide_eq_true w2]
    obtain ⟨k, hk, rfl⟩ := le_ix 13 (by decide) w1 w2
    rw [nI_clamp (show k < 2 ^ 31 by omega), Bool.true_and, cond_true]
    have ne : ∀ {j}, j < 2 ^ 31 → nI k = nI j → k = j := fun hj h => (nI_eq (show k < 2 ^ 31 by omega) hj).mp h
    have eW0 : cnt (lowW row T false) 12 = cnt (lowB row) 12 := cnt_congr (fun i _ => by simp [lowW])
    have eW1 : cnt (lowW row T true) 12 = cnt (lowR row T) 12 := cnt_congr (fun i _ => by simp [lowW, lowR])
    obtain ⟨Sa, ca, fa⟩ := ev_mclusters S R hC.cs false
    obtain ⟨Sb, cb, fb⟩ := ev_mclusters S R hC.cs true
    obtain ⟨Sg, cg, fg⟩ := ev_mgreatest S R hC.cs hπ
    rw [eW0] at ca
    rw [eW1] at cb
    have key : ∃ S1, sFr S S1 ∧ (k = 2 → Gm kM_count 79 [some (.ref 24), some (.int (nI k))] [] (S, PF R, 32) (some (.int (a_countN row π T n m k))) (S1, PF R, 32)) ∧ (k = 3 → Gm kM_count 85 [some (.ref 24), some (.int (nI k))] [] (S, PF R, 32) (some (.int (a_countN row π T n m k))) (S1, PF R, 32)) ∧ (k = 4 → Gm kM_count 91 [some (.ref 24), some (.int (nI k))] [] (S, PF R, 32) (some (.int (a_countN row π T n m k))) (S1, PF R, 32)) ∧ (k = 5 → Gm kM_count 112 [some (.ref 24), some (.int (nI k))] [] (S, PF R, 32) (some (.int (a_countN row π T n m k))) (S1, PF R, 32)) ∧ (k ≠ 2 → k ≠ 3 → k ≠ 4 → k ≠ 5 → S1 = S) := by
      by_cases k2 : k = 2
      · subst k2
        refine ⟨Sa, fa, fun _ => ?_, fun q => absurd q (by decide), fun q => absurd q (by decide), fun q => absurd q (by decide), fun q => absurd rfl q⟩
        refine G_aload_n rfl rfl ?_
        refine G_iconst rfl ?_
        refine H_callV (ca) rfl rfl rfl rfl rfl rfl rfl rfl ?_
        exact H_ret rfl rfl (rfl) (rfl)
      by_cases k3 : k = 3
      · subst k3
        refine ⟨Sb, fb, fun q => absurd q (by decide), fun _ => ?_, fun q => absurd q (by decide), fun q => absurd q (by decide), fun _ q => absurd rfl q⟩
        refine G_aload_n rfl rfl ?_
        refine G_iconst rfl ?_
        refine H_callV (cb) rfl rfl rfl rfl rfl rfl rfl rfl ?_
        exact H_ret rfl rfl (rfl) (rfl)
      by_cases k4 : k = 4
      · subst k4
        by_cases z : cnt (hs row) 96 = 0
        · refine ⟨S, .rf, fun q => absurd q (by decide), fun q => absurd q (by decide), fun _ => ?_, fun q => absurd q (by decide), fun _ _ q => absurd rfl q⟩
          rw [show a_countN row π T n m 4 = 0 by show (if _ then _ else _) = _; rw [low_no hC.1 z]; rfl]
          refine G_aload_n rfl rfl ?_
          refine H_getR rfl rfl rfl rfl rfl rfl ?_
          refine G_iconst rfl ?_
          refine H_iald rfl ((show (1 : Int32) = nI 1 from rfl)) (rfl) ((by decide)) (rfl) ?_
          refine G_if_ne rfl (fun h => ?_) (fun h => ?_)
          · exact absurd (by rw [hC.2.2.2.1, z]; rfl) h
          refine G_iconst rfl ?_
          refine G_goto rfl ?_
          exact H_ret rfl rfl (rfl) (rfl)
        · refine ⟨Sb, fb, fun q => absurd q (by decide), fun q => absurd q (by decide), fun _ => ?_, fun q => absurd q (by decide), fun _ _ q => absurd rfl q⟩
          have ex : ∃ j, j < 96 ∧ hs row j = true := Classical.byContradiction fun q => z (cnt_0.mpr (fun i hi => by
            cases h : hs row i with
            | false => rfl
            | true => exact absurd ⟨i, hi, h⟩ q))
          obtain ⟨j, hj, hh⟩ := ex
          obtain ⟨p, hp, hl⟩ := low_ex hC.1 hj hh
          have c0 : 0 < cnt (lowR row T) 12 := Nat.pos_of_ne_zero (fun q => by rw [cnt_0.mp q p hp] at hl; cases hl)
          rw [show a_countN row π T n m 4 = nI (cnt (lowR row T) 12 - 1) by show (if _ then _ else _) = _; rw [if_pos c0]]
          have e2 : nI (cnt (lowR row T) 12) - 1 = nI (cnt (lowR row T) 12 - 1) := pk_sub (b := 1) c0
          have hle := cnt_le (hs row) 96
          refine G_aload_n rfl rfl ?_
          refine H_getR rfl rfl rfl rfl rfl rfl ?_
          refine G_iconst rfl ?_
          refine H_iald rfl ((show (1 : Int32) = nI 1 from rfl)) (rfl) ((by decide)) (rfl) ?_
          refine G_if_ne rfl (fun h => ?_) (fun h => ?_)
          · skip
            refine G_aload_n rfl rfl ?_
            refine G_iconst rfl ?_
            refine H_callV (cb) rfl rfl rfl rfl rfl rfl rfl rfl ?_
            refine G_iconst rfl ?_
            refine G_isub rfl ?_
            exact H_ret rfl rfl (e2) (rfl)
          · exact absurd ((nI_0iff (by omega)).mp (by rw [← hC.2.2.2.1]; exact Decidable.of_not_not h)) z
      by_cases k5 : k = 5
      · subst k5
        refine ⟨Sg, fg, fun q => absurd q (by decide), fun q => absurd q (by decide), fun q => absurd q (by decide), fun _ => ?_, fun _ _ _ q => absurd rfl q⟩
        refine G_aload_n rfl rfl ?_
        refine H_callV (cg) rfl rfl rfl rfl rfl rfl rfl rfl ?_
        exact H_ret rfl rfl (rfl) (rfl)
      exact ⟨S, .rf, fun q => absurd q k2, fun q => absurd q k3, fun q => absurd q k4, fun q => absurd q k5, fun _ _ _ _ => rfl⟩
    obtain ⟨S1, fr, g2, g3, g4, g5, gS⟩ := key
    refine ⟨S1, ?_, fr⟩
    refine EvM_mk [some (.ref 24), some (.int (nI k))] rfl rfl rfl rfl rfl (trivial) ?_
    refine G_iload_n rfl rfl ?_
    refine G_switch rfl rfl rfl (And.intro (fun h => ?_) (And.intro (fun h => ?_) (And.intro (fun h => ?_) (And.intro (fun h => ?_) (And.intro (fun h => ?_) (And.intro (fun h => ?_) (And.intro (fun h => ?_) (And.intro (fun h => ?_) (And.intro (fun h => ?_) (And.intro (fun h => ?_) (And.intro (fun h => ?_) (And.intro (fun h => ?_) (And.intro (fun h => ?_) (And.intro (fun h => ?_) trivial)))))))))))))) (fun h => ?_)
    · obtain rfl := ne (by decide) h
      obtain rfl := gS (by decide) (by decide) (by decide) (by decide)
      refine G_aload_n rfl rfl ?_
      refine H_getR rfl rfl rfl rfl rfl rfl ?_
      refine G_iload_n rfl rfl ?_
      refine H_iald rfl ((show nI 0 = nI 0 from rfl)) (rfl) ((by decide)) (rfl) ?_
      exact H_ret rfl rfl ((by rw [hC.2.2.1]; exact hC.1.1.symm)) (rfl)
    · obtain rfl := ne (by decide) h
      obtain rfl := gS (by decide) (by decide) (by decide) (by decide)
      refine G_aload_n rfl rfl ?_
      refine H_getR rfl rfl rfl rfl rfl rfl ?_
      refine G_iload_n rfl rfl ?_
      refine H_iald rfl ((show nI 1 = nI 1 from rfl)) (rfl) ((by decide)) (rfl) ?_
      exact H_ret rfl rfl ((by rw [hC.2.2.2.1]; show _ = nI (tAll row T); rw [tAll_cnt hC.1])) (rfl)
    · exact g2 (ne (by decide) h)
    · exact g3 (ne (by decide) h)
    · exact g4 (ne (by decide) h)
    · exact g5 (ne (by decide) h)
    · obtain rfl := ne (by decide) h
      obtain rfl := gS (by decide) (by decide) (by decide) (by decide)
      refine G_aload_n rfl rfl ?_
      refine H_callV (ev_mbareP S1 R hC.cs) rfl rfl rfl rfl rfl rfl rfl rfl ?_
      exact H_ret rfl rfl (rfl) (rfl)
    · obtain rfl := ne (by decide) h
      obtain rfl := gS (by decide) (by decide) (by decide) (by decide)
      refine G_aload_n rfl rfl ?_
      refine H_callV (ev_mbareT S1 R hC) rfl rfl rfl rfl rfl rfl rfl rfl ?_
      exact H_ret rfl rfl (rfl) (rfl)
    · obtain rfl := ne (by decide) h
      obtain rfl := gS (by decide) (by decide) (by decide) (by decide)
      refine G_aload_n rfl rfl ?_
      refine H_getR rfl rfl rfl rfl rfl rfl ?_
      refine G_iconst rfl ?_
      refine G_iload_n rfl rfl ?_
      refine G_iadd rfl ?_
      refine G_bipush rfl ?_
      refine G_isub rfl ?_
      refine H_iald rfl ((show (2 : Int32) + nI 8 - 8 = nI 2 by decide)) (rfl) ((by decide)) (rfl) ?_
      exact H_ret rfl rfl (hC.2.2.2.2.1) (rfl)
    · obtain rfl := ne (by decide) h
      obtain rfl := gS (by decide) (by decide) (by decide) (by decide)
      refine G_aload_n rfl rfl ?_
      refine H_getR rfl rfl rfl rfl rfl rfl ?_
      refine G_iconst rfl ?_
      refine G_iload_n rfl rfl ?_
      refine G_iadd rfl ?_
      refine G_bipush rfl ?_
      refine G_isub rfl ?_
      refine H_iald rfl ((show (2 : Int32) + nI 9 - 8 = nI 3 by decide)) (rfl) ((by decide)) (rfl) ?_
      exact H_ret rfl rfl (hC.2.2.2.2.2.1) (rfl)
    · obtain rfl := ne (by decide) h
      obtain rfl := gS (by decide) (by decide) (by decide) (by decide)
      refine G_aload_n rfl rfl ?_
      refine H_getR rfl rfl rfl rfl rfl rfl ?_
      refine G_iconst rfl ?_
      refine G_iload_n rfl rfl ?_
      refine G_iadd rfl ?_
      refine G_bipush rfl ?_
      refine G_isub rfl ?_
      refine H_iald rfl ((show (2 : Int32) + nI 10 - 8 = nI 4 by decide)) (rfl) ((by decide)) (rfl) ?_
      exact H_ret rfl rfl (hC.2.2.2.2.2.2.1) (rfl)
    · obtain rfl := ne (by decide) h
      obtain rfl := gS (by decide) (by decide) (by decide) (by decide)
      refine G_aload_n rfl rfl ?_
      refine H_getR rfl rfl rfl rfl rfl rfl ?_
      refine G_iconst rfl ?_
      refine G_iload_n rfl rfl ?_
      refine G_iadd rfl ?_
      refine G_bipush rfl ?_
      refine G_isub rfl ?_
      refine H_iald rfl ((show (2 : Int32) + nI 11 - 8 = nI 5 by decide)) (rfl) ((by decide)) (rfl) ?_
      exact H_ret rfl rfl (hC.2.2.2.2.2.2.2.1) (rfl)
    · obtain rfl := ne (by decide) h
      obtain rfl := gS (by decide) (by decide) (by decide) (by decide)
      refine G_aload_n rfl rfl ?_
      refine H_getI rfl rfl rfl rfl ?_
      exact H_ret rfl rfl (hn) (rfl)
    · obtain rfl := ne (by decide) h
      obtain rfl := gS (by decide) (by decide) (by decide) (by decide)
      refine G_aload_n rfl rfl ?_
      refine H_getI rfl rfl rfl rfl ?_
      exact H_ret rfl rfl (hm) (rfl)
    · exact absurd (sw_out (lo := 0) (hi := 13) (show k < 2 ^ 31 by omega) h) (by omega)
/-- less, or the same and before -/
noncomputable def aB (row π : Nat → Int32) (p i : Nat) : Bool := cB row p i && (decide (π i - π p < 0) || (decide (π i - π p = 0) && decide (i < p)))
set_option maxRecDepth 100000 in
theorem ml_point (hC : CS row T (S 25)) (hπ : Pot row π) (p w : Int32) : ∃ S1, EvM kM_point [.ref 24, .int p, .int w] (mk S R) (some (.int (a_point row π T p w))) (mk S1 R) ∧ sFr S S1 := by
  have hT8 := hC.1.2.1
  have c1 := ev_misPoint S R p
  have c2 := ev_min S R w 0 3
  rw [show a_point row π T p w = bif isPt p && mIn w 0 3 then (if w = 0 then nI (tAtP row p T) else if w = 1 then nI (pW row p.toNatClampNeg 0 12) else if w = 2 then nI (pA row π p.toNatClampNeg 12) else pF row π p.toNatClampNeg 12) else -1 from rfl]
  cases hb : isPt p && mIn w 0 3 with
  | false =>
    refine ⟨S, ?_, .rf⟩
    refine EvM_mk [some (.ref 24), some (.int p), some (.int w), none, none, none] rfl rfl rfl rfl rfl (trivial) ?_
    refine G_iload_n rfl rfl ?_
    refine H_callS (c1) rfl rfl rfl rfl rfl ?_
    refine G_if_eq rfl (fun h1 => ?_) (fun h1 => ?_)
    · skip
      refine G_iconst rfl ?_
      exact H_ret rfl rfl (rfl) (rfl)
    refine G_iload_n rfl rfl ?_
    refine G_iconst rfl ?_
    refine G_iconst rfl ?_
    refine H_callS (c2) rfl rfl rfl rfl rfl ?_
    refine G_if_ne rfl (fun h2 => ?_) (fun h2 => ?_)
    · rw [b2i_n0.mp h1, b2i_n0.mp h2] at hb; cases hb
    · skip
      refine G_iconst rfl ?_
      exact H_ret rfl rfl (rfl) (rfl)
  | true =>
    rw [Bool.and_eq_true] at hb
    obtain ⟨b1, b2⟩ := hb
    rw [b1] at c1
    rw [b2] at c2
    obtain ⟨a, ha, rfl⟩ := isPt_ix b1
    rw [nI_clamp (show a < 2 ^ 31 by omega), cond_true]
    by_cases w0 : w = 0
    · rw [if_pos w0]
      refine ⟨S, ?_, .rf⟩
      refine EvM_mk [some (.ref 24), some (.int (nI a)), some (.int w), none, none, none] rfl rfl rfl rfl rfl (trivial) ?_
      refine G_iload_n rfl rfl ?_
      refine H_callS (c1) rfl rfl rfl rfl rfl ?_
      refine G_if_eq rfl (fun h1 => ?_) (fun h1 => ?_)
      · exact absurd h1 (by decide)
      refine G_iload_n rfl rfl ?_
      refine G_iconst rfl ?_
      refine G_iconst rfl ?_
      refine H_callS (c2) rfl rfl rfl rfl rfl ?_
      refine G_if_ne rfl (fun h2 => ?_) (fun h2 => ?_)
      · skip
        refine G_iload_n rfl rfl ?_
        refine G_if_ne rfl (fun h3 => ?_) (fun h3 => ?_)
        · exact absurd w0 h3
        refine G_aload_n rfl rfl ?_
        refine G_iload_n rfl rfl ?_
        refine H_callV (ev_mtapesAt S R hC ha) rfl rfl rfl rfl rfl rfl rfl rfl ?_
        exact H_ret rfl rfl (rfl) (rfl)
      · exact absurd h2 (by decide)
    rw [if_neg w0]
    obtain ⟨S1, c3, fr, ms⟩ := ev_mspreads S R hC (a := a) (by omega)
    have hB : ∀ i, i < 12 → cB row a i = true → S1 30 i = π i - π a ∧ -19980 ≤ (π i - π a).toInt ∧ (π i - π a).toInt ≤ 19980 := fun i hi hc => by
      obtain ⟨q1, q2, q3⟩ := ms.2 i (by omega) hc
      have := q1 π hπ
      rw [← this]
      exact ⟨rfl, q2, q3⟩
    have hF := (ff_pF (row := row) (π := π) (p := a) (fun i hi hc => (hB i hi hc).2) 12 (Nat.le_refl 12)).1
    have c4 := ev_mmetPoints S1 R ms.1
    refine ⟨S1, ?_, fr⟩
    have goal : Gm kM_point 41 [some (.ref 24), some (.int (nI a)), some (.int w), some (.int (nI (cnt (aB row π a) 0))), some (.int (ff row π a 0)), some (.int (nI 0))] [] (S1, PF R, 32) (some (.int (if w = 1 then nI (pW row a 0 12) else if w = 2 then nI (pA row π a 12) else pF row π a 12))) (S1, PF R, 32) := by
      refine down 12 (fun i => Gm kM_point 41 [some (.ref 24), some (.int (nI a)), some (.int w), some (.int (nI (cnt (aB row π a) i))), some (.int (ff row π a i)), some (.int (nI i))] [] (S1, PF R, 32) (some (.int (if w = 1 then nI (pW row a 0 12) else if w = 2 then nI (pA row π a 12) else pF row π a 12))) (S1, PF R, 32)) ?_ (fun i hi ih => ?_)
      · skip
        refine G_iload rfl rfl ?_
        refine G_bipush rfl ?_
        refine G_icmp_ge rfl (fun h => ?_) (fun h => ?_)
        · skip
          refine G_iload_n rfl rfl ?_
          refine G_iconst rfl ?_
          refine G_icmp_ne rfl (fun h1 => ?_) (fun h1 => ?_)
          · skip
            refine G_iload_n rfl rfl ?_
            refine G_iconst rfl ?_
            refine G_icmp_ne rfl (fun h2 => ?_) (fun h2 => ?_)
            · skip
              refine G_iload rfl rfl ?_
              refine G_ineg rfl ?_
              exact H_ret rfl rfl ((by rw [if_neg h1, if_neg h2, hF])) (rfl)
            · skip
              refine G_iload_n rfl rfl ?_
              refine G_goto rfl ?_
              exact H_ret rfl rfl ((by rw [if_neg h1, if_pos (Decidable.of_not_not h2)]; rfl)) (rfl)
          · skip
            refine G_aload_n rfl rfl ?_
            refine H_callV (c4) rfl rfl rfl rfl rfl rfl rfl rfl ?_
            refine G_goto rfl ?_
            exact H_ret rfl rfl ((by rw [if_pos (Decidable.of_not_not h1)])) (rfl)
        · exact absurd (by decide) h
      · have hm := ms.1 i (by omega)
        rw [nI_succ i, ff] at ih
        have sec : ∀ N : Int32, Gm kM_point 41 [some (.ref 24), some (.int (nI a)), some (.int w), some (.int N), some (.int (bif cB row a i && decide (π i - π a < ff row π a i) then π i - π a else ff row π a i)), some (.int (nI i + 1))] [] (S1, PF R, 32) (some (.int (if w = 1 then nI (pW row a 0 12) else if w = 2 then nI (pA row π a 12) else pF row π a 12))) (S1, PF R, 32) → Gm kM_point 92 [some (.ref 24), some (.int (nI a)), some (.int w), some (.int N), some (.int (ff row π a i)), some (.int (nI i))] [] (S1, PF R, 32) (some (.int (if w = 1 then nI (pW row a 0 12) else if w = 2 then nI (pA row π a 12) else pF row π a 12))) (S1, PF R, 32) := fun N kk => by
          refine G_aload_n rfl rfl ?_
          refine H_getR rfl rfl rfl rfl rfl rfl ?_
          refine G_iload rfl rfl ?_
          refine H_bald rfl (rfl) (rfl) ((by omega)) (rfl) ?_
          rw [hm]
          refine G_if_eq rfl (fun h1 => ?_) (fun h1 => ?_)
          · skip
            refine G_iload rfl rfl ?_
            refine H_ist_6_4 rfl rfl ?_
            refine H_inc_6_5 rfl rfl ?_
            refine G_goto rfl ?_
            rw [b2i_0.mp h1, Bool.false_and, cond_false] at kk
            exact kk
          have h1 := b2i_n0.mp h1
          have hv := (hB i hi h1).1
          rw [h1, Bool.true_and] at kk
          refine G_aload_n rfl rfl ?_
          refine H_getR rfl rfl rfl rfl rfl rfl ?_
          refine G_iload rfl rfl ?_
          refine H_iald rfl (rfl) (rfl) ((by omega)) (rfl) ?_
          rw [hv]
          refine G_iload rfl rfl ?_
          refine G_icmp_ge rfl (fun h2 => ?_) (fun h2 => ?_)
          · skip
            refine G_iload rfl rfl ?_
            refine H_ist_6_4 rfl rfl ?_
            refine H_inc_6_5 rfl rfl ?_
            refine G_goto rfl ?_
            rw [decide_eq_false (Int32.not_lt.mpr h2), cond_false] at kk
            exact kk
          refine G_aload_n rfl rfl ?_
          refine H_getR rfl rfl rfl rfl rfl rfl ?_
          refine G_iload rfl rfl ?_
          refine H_iald rfl (rfl) (rfl) ((by omega)) (rfl) ?_
          rw [hv]
          refine G_goto rfl ?_
          refine H_ist_6_4 rfl rfl ?_
          refine H_inc_6_5 rfl rfl ?_
          refine G_goto rfl ?_
          rw [decide_eq_true (Int32.not_le.mp h2), cond_true] at kk
          exact kk
        have yes : aB row π a i = true → Gm kM_point 85 [some (.ref 24), some (.int (nI a)), some (.int w), some (.int (nI (cnt (aB row π a) i))), some (.int (ff row π a i)), some (.int (nI i))] [.int (nI (cnt (aB row π a) i))] (S1, PF R, 32) (some (.int (if w = 1 then nI (pW row a 0 12) else if w = 2 then nI (pA row π a 12) else pF row π a 12))) (S1, PF R, 32) := fun e => by
          refine G_iconst rfl ?_
          refine G_goto rfl ?_
          refine G_iadd rfl ?_
          refine H_ist_6_3 rfl rfl ?_
          refine sec _ ?_
          rw [cnt_t e, nI_succ] at ih
          exact ih
        have no : aB row π a i = false → Gm kM_point 89 [some (.ref 24), some (.int (nI a)), some (.int w), some (.int (nI (cnt (aB row π a) i))), some (.int (ff row π a i)), some (.int (nI i))] [.int (nI (cnt (aB row π a) i))] (S1, PF R, 32) (some (.int (if w = 1 then nI (pW row a 0 12) else if w = 2 then nI (pA row π a 12) else pF row π a 12))) (S1, PF R, 32) := fun e => by
          refine G_iconst rfl ?_
          refine G_iadd rfl ?_
          refine H_ist_6_3 rfl rfl ?_
          refine sec _ ?_
          rw [cnt_f e, ← Int32.add_zero (nI (cnt (aB row π a) i))] at ih
          exact ih
        refine G_iload rfl rfl ?_
        refine G_bipush rfl ?_
        refine G_icmp_ge rfl (fun h => ?_) (fun h => ?_)
        · exact absurd h (ge_no hi (by decide))
        refine G_iload_n rfl rfl ?_
        refine G_aload_n rfl rfl ?_
        refine H_getR rfl rfl rfl rfl rfl rfl ?_
        refine G_iload rfl rfl ?_
        refine H_bald rfl (rfl) (rfl) ((by omega)) (rfl) ?_
        rw [hm]
        refine G_if_eq rfl (fun h1 => ?_) (fun h1 => ?_)
        · exact no (by rw [aB, b2i_0.mp h1]; rfl)
        have h1 := b2i_n0.mp h1
        have hv := (hB i hi h1).1
        refine G_aload_n rfl rfl ?_
        refine H_getR rfl rfl rfl rfl rfl rfl ?_
        refine G_iload rfl rfl ?_
        refine H_iald rfl (rfl) (rfl) ((by omega)) (rfl) ?_
        rw [hv]
        refine G_if_lt rfl (fun h2 => ?_) (fun h2 => ?_)
        · exact yes (by rw [aB, h1, decide_eq_true h2]; rfl)
        refine G_aload_n rfl rfl ?_
        refine H_getR rfl rfl rfl rfl rfl rfl ?_
        refine G_iload rfl rfl ?_
        refine H_iald rfl (rfl) (rfl) ((by omega)) (rfl) ?_
        rw [hv]
        refine G_if_ne rfl (fun h3 => ?_) (fun h3 => ?_)
        · exact no (by rw [aB, h1, decide_eq_false h2, decide_eq_false h3]; rfl)
        have h3 := Decidable.of_not_not h3
        refine G_iload rfl rfl ?_
        refine G_iload_n rfl rfl ?_
        refine G_icmp_ge rfl (fun h4 => ?_) (fun h4 => ?_)
        · exact no (by rw [aB, decide_eq_false h2, decide_eq_false (show ¬ i < a from fun q => absurd h4 (ge_no q (by omega))), Bool.and_false, Bool.or_self, Bool.and_false])
        · exact yes (by rw [aB, h1, decide_eq_true h3, decide_eq_true (show i < a from Decidable.byContradiction fun q => h4 (nI_le (by omega) (by omega)))]; simp)
    refine EvM_mk [some (.ref 24), some (.int (nI a)), some (.int w), none, none, none] rfl rfl rfl rfl rfl (trivial) ?_
    refine G_iload_n rfl rfl ?_
    refine H_callS (c1) rfl rfl rfl rfl rfl ?_
    refine G_if_eq rfl (fun h1 => ?_) (fun h1 => ?_)
    · exact absurd h1 (by decide)
    refine G_iload_n rfl rfl ?_
    refine G_iconst rfl ?_
    refine G_iconst rfl ?_
    refine H_callS (c2) rfl rfl rfl rfl rfl ?_
    refine G_if_ne rfl (fun h2 => ?_) (fun h2 => ?_)
    · skip
      refine G_iload_n rfl rfl ?_
      refine G_if_ne rfl (fun h3 => ?_) (fun h3 => ?_)
      · skip
        refine G_aload_n rfl rfl ?_
        refine G_iload_n rfl rfl ?_
        refine H_callU (c3) rfl rfl rfl rfl rfl rfl rfl rfl ?_
        refine G_iconst rfl ?_
        refine H_ist_6_3 rfl rfl ?_
        refine G_iconst rfl ?_
        refine H_ist_6_4 rfl rfl ?_
        refine G_iconst rfl ?_
        refine H_ist_6_5 rfl rfl ?_
        exact goal
      · exact absurd (Decidable.of_not_not h3) w0
    · exact absurd h2 (by decide)
end ML4
