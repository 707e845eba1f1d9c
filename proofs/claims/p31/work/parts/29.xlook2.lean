/-! LostZeros: more looks -/
noncomputable def a_point (row π : Nat → Int32) (T : Nat) (p w : Int32) : Int32 := bif isPt p && (decide (¬ w < 0) && decide (¬ 3 < w)) then (if w = 0 then nI (tAtP row p T) else if w = 1 then nI (pW row p.toNatClampNeg 0 12) else if w = 2 then nI (pA row π p.toNatClampNeg 12) else pF row π p.toNatClampNeg 12) else -1
noncomputable def a_tapeOf (row : Nat → Int32) (T : Nat) (t w : Int32) : Int32 := bif tIs row t && (decide (¬ w < 0) && decide (¬ 4 < w)) then (if w = 0 then nI (tOf row t 12) else if w = 1 then tBest row t ltI 12 else if w = 2 then tBest row t gtI 12 else if w = 3 then tAt row t (tBest row t gtI 12) - tAt row t (tBest row t ltI 12) else nI (pW row (12 + t.toNatClampNeg) 12 T)) else -1
noncomputable def a_countN (row π : Nat → Int32) (T n m k : Nat) : Int32 := match k with
  | 0 => row 96
  | 1 => nI (tAll row T)
  | 2 => nI (cnt (lowB row) 12)
  | 3 => nI (cnt (lowR row T) 12)
  | 4 => if 0 < cnt (lowR row T) 12 then nI (cnt (lowR row T) 12 - 1) else 0
  | 5 => pM row π 12
  | 6 => nI (tBare row T 12)
  | 7 => nI (tBareT row T)
  | 8 => row 97
  | 9 => row 98
  | 10 => row 99
  | 11 => row 100
  | 12 => nI n
  | _ => nI m
noncomputable def a_count (row π : Nat → Int32) (T n m : Nat) (w : Int32) : Int32 := bif decide (¬ w < 0) && decide (¬ 13 < w) then a_countN row π T n m w.toNatClampNeg else -1
theorem le_ix {x : Int32} (m : Nat) (hm : m < 2 ^ 31) (h1 : ¬ x < 0) (h2 : ¬ nI m < x) : ∃ k, k ≤ m ∧ x = nI k := nI_of2 (nI_toInt hm) h1 (Int32.not_lt.mp h2)
theorem sw_out {k lo hi : Nat} (hk : k < 2 ^ 31) (h : (nI k).toInt < (lo : Int) ∨ (hi : Int) < (nI k).toInt) : k < lo ∨ hi < k := by
  rw [nI_toInt hk] at h
  omega
section XL2
variable (S : Nat → Nat → Int32) (R : Nat → Nat) {T : Nat} {π : Nat → Int32}
set_option maxRecDepth 100000 in
theorem xl_sign (hT : NT (S 2) T) (t q : Int32) : ∃ S1, EvM kX_sign [.ref 0, .int t, .int q] (mk S R) (some (.int (a_sign (S 2) t q))) (mk S1 R) ∧ LK S S1 := by
  have hq : TQ 1 2 := Or.inl ⟨rfl, rfl⟩
  have hx : XQ 22 23 96 := Or.inr ⟨rfl, rfl, rfl⟩
  have hT8 := hT.2.1
  have c1 := ev_isTape hq S R t
  unfold a_sign
  cases b1 : tIs (S 2) t with
  | false =>
    refine ⟨S, ?_, LK.rf⟩
    rw [b1] at c1
    refine EvM_mk [some (.ref 0), some (.int t), some (.int q)] rfl rfl rfl rfl rfl (trivial) ?_
    refine G_aload_n rfl rfl ?_
    refine H_getR rfl rfl rfl rfl rfl rfl ?_
    refine G_iload_n rfl rfl ?_
    refine H_callV (c1) rfl rfl rfl rfl rfl rfl rfl rfl ?_
    refine G_if_eq rfl (fun h => ?_) (fun h => ?_)
    · skip
      refine G_iconst rfl ?_
      exact H_ret rfl rfl (rfl) (rfl)
    · exact absurd rfl h
  | true =>
    rw [b1] at c1
    by_cases q0 : q < 0
    · refine ⟨S, ?_, LK.rf⟩
      refine EvM_mk [some (.ref 0), some (.int t), some (.int q)] rfl rfl rfl rfl rfl (trivial) ?_
      refine G_aload_n rfl rfl ?_
      refine H_getR rfl rfl rfl rfl rfl rfl ?_
      refine G_iload_n rfl rfl ?_
      refine H_callV (c1) rfl rfl rfl rfl rfl rfl rfl rfl ?_
      refine G_if_eq rfl (fun h => ?_) (fun h => ?_)
      · exact absurd h (by decide)
      refine G_iload_n rfl rfl ?_
      refine G_if_ge rfl (fun h => ?_) (fun h => ?_)
      · exact absurd q0 (Int32.not_lt.mpr h)
      · skip
        refine G_iconst rfl ?_
        exact H_ret rfl rfl ((by simp [q0])) (rfl)
    · obtain ⟨a, ha, rfl⟩ := tIs_ix hT.1 hT8 b1
      rw [nI_clamp (show a < 2 ^ 31 by omega), decide_eq_true q0]
      have hlen := wl_len (S 2) a 12
      have evw := ev_write S R (a := a) (by omega)
      generalize wl (S 2) a 12 = W at *
      generalize hS0 : u2 S 22 (upd (S 22) 1 0) = S0 at evw
      have l1 : xApp S0 22 23 0 W 22 1 = nI W.length := by rw [xApp_q (by decide), Nat.zero_add]
      have l2 : xApp S0 22 23 0 W 23 = apd (S0 23) 0 W := by simp [xApp, u2]
      have evl := ev_xlen hx (xApp S0 22 23 0 W) R
      rw [l1] at evl
      have eva := ev_xat hx (xApp S0 22 23 0 W) R l1 (by omega) q
      rw [l2] at eva
      have lk : LK S (xApp S0 22 23 0 W) := fun i hi => by
        have h1 : i ≠ 22 := fun e => hi (by rw [e]; decide)
        have h2 : i ≠ 23 := fun e => hi (by rw [e]; decide)
        rw [← hS0]
        simp [xApp, u2, h1, h2]
      refine ⟨xApp S0 22 23 0 W, ?_, lk⟩
      refine EvM_mk [some (.ref 0), some (.int (nI a)), some (.int q)] rfl rfl rfl rfl rfl (trivial) ?_
      refine G_aload_n rfl rfl ?_
      refine H_getR rfl rfl rfl rfl rfl rfl ?_
      refine G_iload_n rfl rfl ?_
      refine H_callV (c1) rfl rfl rfl rfl rfl rfl rfl rfl ?_
      refine G_if_eq rfl (fun h => ?_) (fun h => ?_)
      · exact absurd h (by decide)
      refine G_iload_n rfl rfl ?_
      refine G_if_ge rfl (fun h => ?_) (fun h => ?_)
      · skip
        refine G_aload_n rfl rfl ?_
        refine G_iload_n rfl rfl ?_
        refine H_callU (evw) rfl rfl rfl rfl rfl rfl rfl rfl ?_
        refine G_iload_n rfl rfl ?_
        refine G_aload_n rfl rfl ?_
        refine H_getR rfl rfl rfl rfl rfl rfl ?_
        refine H_callV (evl) rfl rfl rfl rfl rfl rfl rfl rfl ?_
        refine G_icmp_ge rfl (fun h2 => ?_) (fun h2 => ?_)
        · skip
          refine G_bipush rfl ?_
          exact H_ret rfl rfl ((by simp [sgn, Int32.not_lt.mpr h2])) (rfl)
        · have h3 : q < nI W.length := Int32.not_le.mp h2
          obtain ⟨j, hj, rfl⟩ := lt_ix W.length (by omega) q0 h2
          refine G_aload_n rfl rfl ?_
          refine H_getR rfl rfl rfl rfl rfl rfl ?_
          refine G_iload_n rfl rfl ?_
          refine H_callV (eva) rfl rfl rfl rfl rfl rfl rfl rfl ?_
          refine G_goto rfl ?_
          exact H_ret rfl rfl ((by rw [tx_in hj (by omega), show apd (S0 23) 0 W j = W.getD j 0 from by have := apd_at (f := S0 23) W 0 j hj; rwa [Nat.zero_add] at this, sgn, decide_eq_true h3, nI_clamp (by omega)]; rfl)) (rfl)
      · exact absurd (Int32.not_lt.mp q0) h
set_option maxRecDepth 100000 in
theorem xl_point (hT : NT (S 2) T) (hπ : Pot (S 2) π) (p w : Int32) : ∃ S1, EvM kX_point [.ref 0, .int p, .int w] (mk S R) (some (.int (a_point (S 2) π T p w))) (mk S1 R) ∧ LK S S1 := by
  have hq : TQ 1 2 := Or.inl ⟨rfl, rfl⟩
  have c1 := ev_isPoint S R p
  unfold a_point
  cases b1 : isPt p with
  | false =>
    refine ⟨S, ?_, LK.rf⟩
    rw [b1] at c1
    refine EvM_mk [some (.ref 0), some (.int p), some (.int w)] rfl rfl rfl rfl rfl (trivial) ?_
    refine G_iload_n rfl rfl ?_
    refine H_callS (c1) rfl rfl rfl rfl rfl ?_
    refine G_if_eq rfl (fun h => ?_) (fun h => ?_)
    · skip
      refine G_iconst rfl ?_
      exact H_ret rfl rfl (rfl) (rfl)
    · exact absurd rfl h
  | true =>
    rw [b1] at c1
    by_cases w1 : w < 0
    · refine ⟨S, ?_, LK.rf⟩
      refine EvM_mk [some (.ref 0), some (.int p), some (.int w)] rfl rfl rfl rfl rfl (trivial) ?_
      refine G_iload_n rfl rfl ?_
      refine H_callS (c1) rfl rfl rfl rfl rfl ?_
      refine G_if_eq rfl (fun h => ?_) (fun h => ?_)
      · exact absurd h (by decide)
      refine G_iload_n rfl rfl ?_
      refine G_if_lt rfl (fun h => ?_) (fun h => ?_)
      · skip
        refine G_iconst rfl ?_
        exact H_ret rfl rfl ((by simp [w1])) (rfl)
      · exact absurd w1 h
    by_cases w2 : 3 < w
    · refine ⟨S, ?_, LK.rf⟩
      refine EvM_mk [some (.ref 0), some (.int p), some (.int w)] rfl rfl rfl rfl rfl (trivial) ?_
      refine G_iload_n rfl rfl ?_
      refine H_callS (c1) rfl rfl rfl rfl rfl ?_
      refine G_if_eq rfl (fun h => ?_) (fun h => ?_)
      · exact absurd h (by decide)
      refine G_iload_n rfl rfl ?_
      refine G_if_lt rfl (fun h => ?_) (fun h => ?_)
      · exact absurd h w1
      refine G_iload_n rfl rfl ?_
      refine G_iconst rfl ?_
      refine G_icmp_le rfl (fun h => ?_) (fun h => ?_)
      · exact absurd w2 (Int32.not_lt.mpr h)
      · skip
        refine G_iconst rfl ?_
        exact H_ret rfl rfl ((by simp [w2])) (rfl)
    rw [decide_eq_true w1, decide_eq_true w2]
    obtain ⟨a, ha, rfl⟩ := isPt_ix b1
    obtain ⟨k, hk, rfl⟩ := le_ix 3 (by decide) w1 w2
    rw [nI_clamp (show a < 2 ^ 31 by omega)]
    obtain ⟨f, d, evj, hJ⟩ := ev_join S R hT
    have s14 : u2 (u2 S 14 f) 15 d 14 = f := by rw [u2_ne (by decide), u2_same]
    have s15 : u2 (u2 S 14 f) 15 d 15 = d := u2_same
    have s2 : u2 (u2 S 14 f) 15 d 2 = S 2 := by rw [u2_ne (by decide), u2_ne (by decide)]
    have e0 := ev_readingsAt hq (u2 (u2 S 14 f) 15 d) R (nI a) (T := T) (by rw [s2]; exact hT.1) hT.2.1
    rw [s2] at e0
    have e1 := ev_pointsWith (u2 (u2 S 14 f) 15 d) R (a := a) (by omega)
    rw [s14, js_W hJ (by omega) (by omega)] at e1
    have e2 := ev_pointsAheadOf (u2 (u2 S 14 f) 15 d) R ha
    rw [s14, s15, js_A hJ hπ ha (Nat.le_refl 12)] at e2
    have e3 := ev_farFromFirst (u2 (u2 S 14 f) 15 d) R ha
    rw [s14, s15, js_F hJ hπ ha 12 (Nat.le_refl 12)] at e3
    have ne : ∀ {j : Nat}, j ≤ 3 → nI k = nI j → k = j := fun hj h => (nI_eq (by omega) (by omega)).mp h
    refine ⟨u2 (u2 S 14 f) 15 d, ?_, LK_j⟩
    refine EvM_mk [some (.ref 0), some (.int (nI a)), some (.int (nI k))] rfl rfl rfl rfl rfl (trivial) ?_
    refine G_iload_n rfl rfl ?_
    refine H_callS (c1) rfl rfl rfl rfl rfl ?_
    refine G_if_eq rfl (fun h => ?_) (fun h => ?_)
    · exact absurd h (by decide)
    refine G_iload_n rfl rfl ?_
    refine G_if_lt rfl (fun h => ?_) (fun h => ?_)
    · exact absurd h w1
    refine G_iload_n rfl rfl ?_
    refine G_iconst rfl ?_
    refine G_icmp_le rfl (fun h => ?_) (fun h => ?_)
    · skip
      refine G_aload_n rfl rfl ?_
      refine H_getR rfl rfl rfl rfl rfl rfl ?_
      refine G_aload_n rfl rfl ?_
      refine H_getR rfl rfl rfl rfl rfl rfl ?_
      refine H_callU (evj) rfl rfl rfl rfl rfl rfl rfl rfl ?_
      refine G_iload_n rfl rfl ?_
      refine G_switch rfl rfl rfl (And.intro (fun h => ?_) (And.intro (fun h => ?_) (And.intro (fun h => ?_) trivial))) (fun h => ?_)
      · obtain rfl := ne (by decide) h
        refine G_aload_n rfl rfl ?_
        refine H_getR rfl rfl rfl rfl rfl rfl ?_
        refine G_iload_n rfl rfl ?_
        refine H_callV (e0) rfl rfl rfl rfl rfl rfl rfl rfl ?_
        exact H_ret rfl rfl (rfl) (rfl)
      · obtain rfl := ne (by decide) h
        refine G_aload_n rfl rfl ?_
        refine H_getR rfl rfl rfl rfl rfl rfl ?_
        refine G_iload_n rfl rfl ?_
        refine H_callV (e1) rfl rfl rfl rfl rfl rfl rfl rfl ?_
        exact H_ret rfl rfl (rfl) (rfl)
      · obtain rfl := ne (by decide) h
        refine G_aload_n rfl rfl ?_
        refine H_getR rfl rfl rfl rfl rfl rfl ?_
        refine G_iload_n rfl rfl ?_
        refine H_callV (e2) rfl rfl rfl rfl rfl rfl rfl rfl ?_
        exact H_ret rfl rfl (rfl) (rfl)
      · have := sw_out (lo := 0) (hi := 2) (by omega) h
        obtain rfl : k = 3 := by omega
        refine G_aload_n rfl rfl ?_
        refine H_getR rfl rfl rfl rfl rfl rfl ?_
        refine G_iload_n rfl rfl ?_
        refine H_callV (e3) rfl rfl rfl rfl rfl rfl rfl rfl ?_
        exact H_ret rfl rfl (rfl) (rfl)
    · exact absurd (Int32.not_lt.mp w2) h
set_option maxRecDepth 100000 in
theorem xl_tapeOf (hT : NT (S 2) T) (t w : Int32) : ∃ S1, EvM kX_tapeOf [.ref 0, .int t, .int w] (mk S R) (some (.int (a_tapeOf (S 2) T t w))) (mk S1 R) ∧ LK S S1 := by
  have hq : TQ 1 2 := Or.inl ⟨rfl, rfl⟩
  have hT8 := hT.2.1
  have c1 := ev_isTape hq S R t
  unfold a_tapeOf
  cases b1 : tIs (S 2) t with
  | false =>
    refine ⟨S, ?_, LK.rf⟩
    rw [b1] at c1
    refine EvM_mk [some (.ref 0), some (.int t), some (.int w)] rfl rfl rfl rfl rfl (trivial) ?_
    refine G_aload_n rfl rfl ?_
    refine H_getR rfl rfl rfl rfl rfl rfl ?_
    refine G_iload_n rfl rfl ?_
    refine H_callV (c1) rfl rfl rfl rfl rfl rfl rfl rfl ?_
    refine G_if_eq rfl (fun h => ?_) (fun h => ?_)
    · skip
      refine G_iconst rfl ?_
      exact H_ret rfl rfl (rfl) (rfl)
    · exact absurd rfl h
  | true =>
    rw [b1] at c1
    by_cases w1 : w < 0
    · refine ⟨S, ?_, LK.rf⟩
      refine EvM_mk [some (.ref 0), some (.int t), some (.int w)] rfl rfl rfl rfl rfl (trivial) ?_
      refine G_aload_n rfl rfl ?_
      refine H_getR rfl rfl rfl rfl rfl rfl ?_
      refine G_iload_n rfl rfl ?_
      refine H_callV (c1) rfl rfl rfl rfl rfl rfl rfl rfl ?_
      refine G_if_eq rfl (fun h => ?_) (fun h => ?_)
      · exact absurd h (by decide)
      refine G_iload_n rfl rfl ?_
      refine G_if_lt rfl (fun h => ?_) (fun h => ?_)
      · skip
        refine G_iconst rfl ?_
        exact H_ret rfl rfl ((by simp [w1])) (rfl)
      · exact absurd w1 h
    by_cases w2 : 4 < w
    · refine ⟨S, ?_, LK.rf⟩
      refine EvM_mk [some (.ref 0), some (.int t), some (.int w)] rfl rfl rfl rfl rfl (trivial) ?_
      refine G_aload_n rfl rfl ?_
      refine H_getR rfl rfl rfl rfl rfl rfl ?_
      refine G_iload_n rfl rfl ?_
      refine H_callV (c1) rfl rfl rfl rfl rfl rfl rfl rfl ?_
      refine G_if_eq rfl (fun h => ?_) (fun h => ?_)
      · exact absurd h (by decide)
      refine G_iload_n rfl rfl ?_
      refine G_if_lt rfl (fun h => ?_) (fun h => ?_)
      · exact absurd h w1
      refine G_iload_n rfl rfl ?_
      refine G_iconst rfl ?_
      refine G_icmp_le rfl (fun h => ?_) (fun h => ?_)
      · exact absurd w2 (Int32.not_lt.mpr h)
      · skip
        refine G_iconst rfl ?_
        exact H_ret rfl rfl ((by simp [w2])) (rfl)
    rw [decide_eq_true w1, decide_eq_true w2]
    obtain ⟨k, hk, rfl⟩ := le_ix 4 (by decide) w1 w2
    have ne : ∀ {j : Nat}, j ≤ 4 → nI k = nI j → k = j := fun hj h => (nI_eq (by omega) (by omega)).mp h
    have front : ∀ (S1 : Nat → Nat → Int32) (r : Int32), Gm kX_tapeOf 22 [some (.ref 0), some (.int t), some (.int (nI k))] [] (S, PF R, 24) (some (.int r)) (S1, PF R, 24) → EvM kX_tapeOf [.ref 0, .int t, .int (nI k)] (mk S R) (some (.int r)) (mk S1 R) := fun S1 r g => by
      refine EvM_mk [some (.ref 0), some (.int t), some (.int (nI k))] rfl rfl rfl rfl rfl (trivial) ?_
      refine G_aload_n rfl rfl ?_
      refine H_getR rfl rfl rfl rfl rfl rfl ?_
      refine G_iload_n rfl rfl ?_
      refine H_callV (c1) rfl rfl rfl rfl rfl rfl rfl rfl ?_
      refine G_if_eq rfl (fun h => ?_) (fun h => ?_)
      · exact absurd h (by decide)
      refine G_iload_n rfl rfl ?_
      refine G_if_lt rfl (fun h => ?_) (fun h => ?_)
      · exact absurd h w1
      refine G_iload_n rfl rfl ?_
      refine G_iconst rfl ?_
      refine G_icmp_le rfl (fun h => ?_) (fun h => ?_)
      · exact g
      · exact absurd (Int32.not_lt.mp w2) h
    by_cases h4 : k = 4
    · subst h4
      obtain ⟨a, ha, rfl⟩ := tIs_ix hT.1 hT8 b1
      rw [nI_clamp (show a < 2 ^ 31 by omega)]
      have e12 : (12 : Int32) + nI a = nI (12 + a) := nI_add 12 a
      obtain ⟨f, d, evj, hJ⟩ := ev_join S R hT
      have s14 : u2 (u2 S 14 f) 15 d 14 = f := by rw [u2_ne (by decide), u2_same]
      have s2 : u2 (u2 S 14 f) 15 d 2 = S 2 := by rw [u2_ne (by decide), u2_ne (by decide)]
      have et := ev_tapes hq (u2 (u2 S 14 f) 15 d) R
      rw [s2, hT.1] at et
      have e1 := ev_tapesWithG (u2 (u2 S 14 f) 15 d) R (a := 12 + a) (T := T) (by omega) hT8
      rw [s14, js_W hJ (by omega) (by omega), ← e12] at e1
      refine ⟨u2 (u2 S 14 f) 15 d, front _ _ ?_, LK_j⟩
      refine G_iload_n rfl rfl ?_
      refine G_switch rfl rfl rfl (And.intro (fun h => ?_) (And.intro (fun h => ?_) (And.intro (fun h => ?_) (And.intro (fun h => ?_) trivial)))) (fun h => ?_)
      · exact absurd (ne (by decide) h) (by decide)
      · exact absurd (ne (by decide) h) (by decide)
      · exact absurd (ne (by decide) h) (by decide)
      · exact absurd (ne (by decide) h) (by decide)
      · skip
        refine G_aload_n rfl rfl ?_
        refine H_getR rfl rfl rfl rfl rfl rfl ?_
        refine G_aload_n rfl rfl ?_
        refine H_getR rfl rfl rfl rfl rfl rfl ?_
        refine H_callU (evj) rfl rfl rfl rfl rfl rfl rfl rfl ?_
        refine G_aload_n rfl rfl ?_
        refine H_getR rfl rfl rfl rfl rfl rfl ?_
        refine G_bipush rfl ?_
        refine G_iload_n rfl rfl ?_
        refine G_iadd rfl ?_
        refine G_aload_n rfl rfl ?_
        refine H_getR rfl rfl rfl rfl rfl rfl ?_
        refine H_callV (et) rfl rfl rfl rfl rfl rfl rfl rfl ?_
        refine H_callV (e1) rfl rfl rfl rfl rfl rfl rfl rfl ?_
        exact H_ret rfl rfl (rfl) (rfl)
    · refine ⟨S, front _ _ ?_, LK.rf⟩
      refine G_iload_n rfl rfl ?_
      refine G_switch rfl rfl rfl (And.intro (fun h => ?_) (And.intro (fun h => ?_) (And.intro (fun h => ?_) (And.intro (fun h => ?_) trivial)))) (fun h => ?_)
      · obtain rfl := ne (by decide) h
        refine G_aload_n rfl rfl ?_
        refine H_getR rfl rfl rfl rfl rfl rfl ?_
        refine G_iload_n rfl rfl ?_
        refine H_callV (ev_readingsOf hq S R t) rfl rfl rfl rfl rfl rfl rfl rfl ?_
        exact H_ret rfl rfl (rfl) (rfl)
      · obtain rfl := ne (by decide) h
        refine G_aload_n rfl rfl ?_
        refine H_getR rfl rfl rfl rfl rfl rfl ?_
        refine G_iload_n rfl rfl ?_
        refine H_callV (ev_pointOfLeast hq S R t) rfl rfl rfl rfl rfl rfl rfl rfl ?_
        exact H_ret rfl rfl (rfl) (rfl)
      · obtain rfl := ne (by decide) h
        refine G_aload_n rfl rfl ?_
        refine H_getR rfl rfl rfl rfl rfl rfl ?_
        refine G_iload_n rfl rfl ?_
        refine H_callV (ev_pointOfGreatest hq S R t) rfl rfl rfl rfl rfl rfl rfl rfl ?_
        exact H_ret rfl rfl (rfl) (rfl)
      · obtain rfl := ne (by decide) h
        refine G_aload_n rfl rfl ?_
        refine H_getR rfl rfl rfl rfl rfl rfl ?_
        refine G_iload_n rfl rfl ?_
        refine H_callV (ev_spread hq S R t) rfl rfl rfl rfl rfl rfl rfl rfl ?_
        exact H_ret rfl rfl (rfl) (rfl)
      · have := sw_out (lo := 0) (hi := 3) (by omega) h
        exact absurd (show k = 4 by omega) h4
set_option maxRecDepth 100000 in
theorem xl_count (hT : NT (S 2) T) (hπ : Pot (S 2) π) {n m : Nat} (hn : S 10 1 = nI n) (hm : S 3 1 = nI m) (w : Int32) : ∃ S1, EvM kX_count [.ref 0, .int w] (mk S R) (some (.int (a_count (S 2) π T n m w))) (mk S1 R) ∧ LK S S1 := by
  have hq : TQ 1 2 := Or.inl ⟨rfl, rfl⟩
  have hx : XQ 10 11 60 := Or.inl ⟨rfl, rfl, rfl⟩
  have hT8 := hT.2.1
  unfold a_count
  by_cases w1 : w < 0
  · refine ⟨S, ?_, LK.rf⟩
    refine EvM_mk [some (.ref 0), some (.int w)] rfl rfl rfl rfl rfl (trivial) ?_
    refine G_iload_n rfl rfl ?_
    refine G_if_lt rfl (fun h => ?_) (fun h => ?_)
    · skip
      refine G_iconst rfl ?_
      exact H_ret rfl rfl ((by simp [w1])) (rfl)
    · exact absurd w1 h
  by_cases w2 : 13 < w
  · refine ⟨S, ?_, LK.rf⟩
    refine EvM_mk [some (.ref 0), some (.int w)] rfl rfl rfl rfl rfl (trivial) ?_
    refine G_iload_n rfl rfl ?_
    refine G_if_lt rfl (fun h => ?_) (fun h => ?_)
    · exact absurd h w1
    refine G_iload_n rfl rfl ?_
    refine G_bipush rfl ?_
    refine G_icmp_le rfl (fun h => ?_) (fun h => ?_)
    · exact absurd w2 (Int32.not_lt.mpr h)
    · skip
      refine G_iconst rfl ?_
      exact H_ret rfl rfl ((by simp [w2])) (rfl)
  rw [decide_eq_true w1, decide_eq_true w2]
  obtain ⟨k, hk, rfl⟩ := le_ix 13 (by decide) w1 w2
  rw [nI_clamp (show k < 2 ^ 31 by omega)]
  have ne : ∀ {j : Nat}, j ≤ 13 → nI k = nI j → k = j := fun hj h => (nI_eq (by omega) (by omega)).mp h
  have front : ∀ (S1 : Nat → Nat → Int32) (r : Int32), Gm kX_count 12 [some (.ref 0), some (.int (nI k))] [] (S, PF R, 24) (some (.int r)) (S1, PF R, 24) → EvM kX_count [.ref 0, .int (nI k)] (mk S R) (some (.int r)) (mk S1 R) := fun S1 r g => by
    refine EvM_mk [some (.ref 0), some (.int (nI k))] rfl rfl rfl rfl rfl (trivial) ?_
    refine G_iload_n rfl rfl ?_
    refine G_if_lt rfl (fun h => ?_) (fun h => ?_)
    · exact absurd h w1
    refine G_iload_n rfl rfl ?_
    refine G_bipush rfl ?_
    refine G_icmp_le rfl (fun h => ?_) (fun h => ?_)
    · exact g
    · exact absurd (Int32.not_lt.mp w2) h
  by_cases hg : k = 2 ∨ k = 3 ∨ k = 4 ∨ k = 5
  · obtain ⟨f, d, evn, hJ⟩ := ev_numberOfGroups S R hT hg
    have hl : cnt (gLow f) 12 = cnt (lowB (S 2)) 12 := cnt_congr (fun i hi => js_L hJ hi)
    have hlr : cnt (gLowR f (S 2) T) 12 = cnt (lowR (S 2) T) 12 := cnt_congr (fun i hi => by rw [gLowR, lowR, js_L hJ hi])
    have e : ngr f d (S 2) T k = a_countN (S 2) π T n m k := by
      rcases hg with rfl | rfl | rfl | rfl
      · show nI _ = nI _; rw [hl]
      · show nI _ = nI _; rw [hlr]
      · show (if _ then _ else _) = (if _ then _ else _); rw [hlr]
      · exact js_M hJ hπ 12 (Nat.le_refl 12)
    refine ⟨u2 (u2 S 14 f) 15 d, front _ _ ?_, LK_j⟩
    refine G_iload_n rfl rfl ?_
    refine G_iconst rfl ?_
    refine G_icmp_lt rfl (fun h => ?_) (fun h => ?_)
    · exact absurd h (nI_nlt (b := 2) (by omega) (by omega))
    refine G_iload_n rfl rfl ?_
    refine G_iconst rfl ?_
    refine G_icmp_gt rfl (fun h => ?_) (fun h => ?_)
    · exact absurd h (nI_nlt (b := k) (a := 5) (by omega) (by omega))
    refine G_aload_n rfl rfl ?_
    refine G_iload_n rfl rfl ?_
    refine H_callV (evn) rfl rfl rfl rfl rfl rfl rfl rfl ?_
    exact H_ret rfl rfl (e) (rfl)
  · refine ⟨S, front _ _ ?_, LK.rf⟩
    have sw : Gm kX_count 28 [some (.ref 0), some (.int (nI k))] [] (S, PF R, 24) (some (.int (a_countN (S 2) π T n m k))) (S, PF R, 24) := by
      have evl := ev_xlen hx S R
      rw [hn] at evl
      have evh := ev_hstates S R
      rw [hm] at evh
      refine G_iload_n rfl rfl ?_
      refine G_switch rfl rfl rfl (And.intro (fun h => ?_) (And.intro (fun h => ?_) (And.intro (fun h => ?_) (And.intro (fun h => ?_) (And.intro (fun h => ?_) (And.intro (fun h => ?_) (And.intro (fun h => ?_) (And.intro (fun h => ?_) (And.intro (fun h => ?_) (And.intro (fun h => ?_) (And.intro (fun h => ?_) (And.intro (fun h => ?_) (And.intro (fun h => ?_) trivial))))))))))))) (fun h => ?_)
      · obtain rfl := ne (by decide) h
        refine G_aload_n rfl rfl ?_
        refine H_getR rfl rfl rfl rfl rfl rfl ?_
        refine H_callV (ev_tapes hq S R) rfl rfl rfl rfl rfl rfl rfl rfl ?_
        exact H_ret rfl rfl (rfl) (rfl)
      · obtain rfl := ne (by decide) h
        refine G_aload_n rfl rfl ?_
        refine H_getR rfl rfl rfl rfl rfl rfl ?_
        refine H_callV (ev_readings hq S R hT.1 hT8) rfl rfl rfl rfl rfl rfl rfl rfl ?_
        exact H_ret rfl rfl (rfl) (rfl)
      · exact absurd (Or.inl (ne (by decide) h)) hg
      · exact absurd (Or.inr (Or.inl (ne (by decide) h))) hg
      · exact absurd (Or.inr (Or.inr (Or.inl (ne (by decide) h)))) hg
      · exact absurd (Or.inr (Or.inr (Or.inr (ne (by decide) h)))) hg
      · obtain rfl := ne (by decide) h
        refine G_aload_n rfl rfl ?_
        refine H_getR rfl rfl rfl rfl rfl rfl ?_
        refine H_callV (ev_barePoints hq S R hT.1 hT8) rfl rfl rfl rfl rfl rfl rfl rfl ?_
        exact H_ret rfl rfl (rfl) (rfl)
      · obtain rfl := ne (by decide) h
        refine G_aload_n rfl rfl ?_
        refine H_getR rfl rfl rfl rfl rfl rfl ?_
        refine H_callV (ev_bareTapes hq S R hT.1 hT8) rfl rfl rfl rfl rfl rfl rfl rfl ?_
        exact H_ret rfl rfl (rfl) (rfl)
      · obtain rfl := ne (by decide) h
        refine G_aload_n rfl rfl ?_
        refine H_getR rfl rfl rfl rfl rfl rfl ?_
        refine G_bipush rfl ?_
        refine H_callV (ev_tallied hq S R (j := 97) (by decide) (by decide)) rfl rfl rfl rfl rfl rfl rfl rfl ?_
        exact H_ret rfl rfl (rfl) (rfl)
      · obtain rfl := ne (by decide) h
        refine G_aload_n rfl rfl ?_
        refine H_getR rfl rfl rfl rfl rfl rfl ?_
        refine G_bipush rfl ?_
        refine H_callV (ev_tallied hq S R (j := 98) (by decide) (by decide)) rfl rfl rfl rfl rfl rfl rfl rfl ?_
        exact H_ret rfl rfl (rfl) (rfl)
      · obtain rfl := ne (by decide) h
        refine G_aload_n rfl rfl ?_
        refine H_getR rfl rfl rfl rfl rfl rfl ?_
        refine G_bipush rfl ?_
        refine H_callV (ev_tallied hq S R (j := 99) (by decide) (by decide)) rfl rfl rfl rfl rfl rfl rfl rfl ?_
        exact H_ret rfl rfl (rfl) (rfl)
      · obtain rfl := ne (by decide) h
        refine G_aload_n rfl rfl ?_
        refine H_getR rfl rfl rfl rfl rfl rfl ?_
        refine G_bipush rfl ?_
        refine H_callV (ev_tallied hq S R (j := 100) (by decide) (by decide)) rfl rfl rfl rfl rfl rfl rfl rfl ?_
        exact H_ret rfl rfl (rfl) (rfl)
      · obtain rfl := ne (by decide) h
        refine G_aload_n rfl rfl ?_
        refine H_getR rfl rfl rfl rfl rfl rfl ?_
        refine H_callV (evl) rfl rfl rfl rfl rfl rfl rfl rfl ?_
        exact H_ret rfl rfl (rfl) (rfl)
      · have := sw_out (lo := 0) (hi := 12) (by omega) h
        obtain rfl : k = 13 := by omega
        refine G_aload_n rfl rfl ?_
        refine H_getR rfl rfl rfl rfl rfl rfl ?_
        refine H_callV (evh) rfl rfl rfl rfl rfl rfl rfl rfl ?_
        exact H_ret rfl rfl (rfl) (rfl)
    refine G_iload_n rfl rfl ?_
    refine G_iconst rfl ?_
    refine G_icmp_lt rfl (fun h => ?_) (fun h => ?_)
    · exact sw
    refine G_iload_n rfl rfl ?_
    refine G_iconst rfl ?_
    refine G_icmp_gt rfl (fun h => ?_) (fun h => ?_)
    · exact sw
    · exfalso
      have h1 : ¬ nI k < nI 2 := by assumption
      have h2 : ¬ nI 5 < nI k := h
      have g1 : ¬ k < 2 := fun q => h1 (nI_lt q (by decide))
      have g2 : ¬ 5 < k := fun q => h2 (nI_lt q (by omega))
      omega
set_option maxRecDepth 100000 in
theorem xl_known (hT : NT (S 2) T) : ∃ S1, EvM kX_known [.ref 0] (mk S R) (some (.double (a_known (S 2)))) (mk S1 R) ∧ LK S S1 := by
  obtain ⟨f, d, evj, hJ⟩ := ev_join S R hT
  have s14 : u2 (u2 S 14 f) 15 d 14 = f := by rw [u2_ne (by decide), u2_same]
  have hle := kE_le (S 2) 12
  have h2 : nI (kE (S 2) 12) / 2 = nI (kE (S 2) 12 / 2) := pk_div (a := kE (S 2) 12) (d := 2) (by omega) (by decide) (by decide)
  refine ⟨u2 (u2 S 14 f) 15 d, ?_, LK_j⟩
  refine EvM_mk [some (.ref 0), none, none] rfl rfl rfl rfl rfl (trivial) ?_
  refine G_aload_n rfl rfl ?_
  refine H_getR rfl rfl rfl rfl rfl rfl ?_
  refine G_aload_n rfl rfl ?_
  refine H_getR rfl rfl rfl rfl rfl rfl ?_
  refine H_callU (evj) rfl rfl rfl rfl rfl rfl rfl rfl ?_
  refine G_iconst rfl ?_
  refine H_ist_3_1 rfl rfl ?_
  refine G_iconst rfl ?_
  refine H_ist_3_2 rfl rfl ?_
  refine down 12 (fun i => Gm kX_known 15 [some (.ref 0), some (.int (nI (kE (S 2) i))), some (.int (nI i))] [] (u2 (u2 S 14 f) 15 d, PF R, 24) _ _) ?_ (fun i hi ih => ?_)
  · skip
    refine G_iload_n rfl rfl ?_
    refine G_bipush rfl ?_
    refine G_icmp_ge rfl (fun h => ?_) (fun h => ?_)
    · skip
      refine G_iload_n rfl rfl ?_
      refine G_iconst rfl ?_
      refine G_idiv rfl (by decide) ?_
      refine H_ist_3_2 rfl rfl ?_
      refine G_iload_n rfl rfl ?_
      rw [h2]
      refine G_i2d rfl ?_
      refine G_ldc2 rfl ?_
      refine G_ddiv rfl (ddiv_ok _ (by omega)) ?_
      exact G_ret rfl rfl rfl rfl
    · exact absurd (by decide) h
  · have e1 := ev_pointsWith (u2 (u2 S 14 f) 15 d) R (a := i) (by omega)
    rw [s14, js_W hJ (by omega) (by omega)] at e1
    have hp := pW_self (row := S 2) hi
    have e2 : nI (pW (S 2) i 0 12) - 1 = nI (pW (S 2) i 0 12 - 1) := pk_sub (b := 1) hp
    refine G_iload_n rfl rfl ?_
    refine G_bipush rfl ?_
    refine G_icmp_ge rfl (fun h => ?_) (fun h => ?_)
    · exact absurd h (ge_no hi (by decide))
    refine G_iload_n rfl rfl ?_
    refine G_aload_n rfl rfl ?_
    refine H_getR rfl rfl rfl rfl rfl rfl ?_
    refine G_iload_n rfl rfl ?_
    refine H_callV (e1) rfl rfl rfl rfl rfl rfl rfl rfl ?_
    refine G_iconst rfl ?_
    refine G_isub rfl ?_
    refine G_iadd rfl ?_
    rw [e2, nI_add]
    refine H_ist_3_1 rfl rfl ?_
    refine H_inc_3_2 rfl rfl ?_
    refine G_goto rfl ?_
    rw [← nI_succ]
    exact ih
set_option maxRecDepth 100000 in
theorem xl_best (hT : NT (S 2) T) : ∃ S1, EvM kX_bestReading [.ref 0] (mk S R) (some (.int (a_best (S 2) T))) (mk S1 R) ∧ LK S S1 := by
  have hq : TQ 1 2 := Or.inl ⟨rfl, rfl⟩
  have hT8 := hT.2.1
  have et := ev_tapes hq S R
  rw [hT.1] at et
  unfold a_best
  by_cases h0 : T = 0
  · subst h0
    refine ⟨S, ?_, LK.rf⟩
    refine EvM_mk [some (.ref 0), none, none, none, none, none] rfl rfl rfl rfl rfl (trivial) ?_
    refine G_aload_n rfl rfl ?_
    refine H_getR rfl rfl rfl rfl rfl rfl ?_
    refine H_callV (et) rfl rfl rfl rfl rfl rfl rfl rfl ?_
    refine G_if_ne rfl (fun h => ?_) (fun h => ?_)
    · exact absurd rfl h
    refine G_bipush rfl ?_
    exact H_ret rfl rfl (rfl) (rfl)
  · rw [if_neg h0]
    obtain ⟨f, d, evj, hJ⟩ := ev_join S R hT
    have s14 : u2 (u2 S 14 f) 15 d 14 = f := by rw [u2_ne (by decide), u2_same]
    have s2 : u2 (u2 S 14 f) 15 d 2 = S 2 := by rw [u2_ne (by decide), u2_ne (by decide)]
    have et2 := ev_tapes hq (u2 (u2 S 14 f) 15 d) R
    rw [s2, hT.1] at et2
    refine ⟨u2 (u2 S 14 f) 15 d, ?_, LK_j⟩
    refine EvM_mk [some (.ref 0), none, none, none, none, none] rfl rfl rfl rfl rfl (trivial) ?_
    refine G_aload_n rfl rfl ?_
    refine H_getR rfl rfl rfl rfl rfl rfl ?_
    refine H_callV (et) rfl rfl rfl rfl rfl rfl rfl rfl ?_
    refine G_if_ne rfl (fun h => ?_) (fun h => ?_)
    · skip
      refine G_aload_n rfl rfl ?_
      refine H_getR rfl rfl rfl rfl rfl rfl ?_
      refine G_aload_n rfl rfl ?_
      refine H_getR rfl rfl rfl rfl rfl rfl ?_
      refine H_callU (evj) rfl rfl rfl rfl rfl rfl rfl rfl ?_
      refine G_iconst rfl ?_
      refine H_ist_6_1 rfl rfl ?_
      refine G_iconst rfl ?_
      refine H_ist_6_2 rfl rfl ?_
      refine G_iconst rfl ?_
      refine H_ist_6_3 rfl rfl ?_
      refine down T (fun t => ∀ l4 l5, Gm kX_bestReading 30 [some (.ref 0), some (.int (nI (bR (S 2) (t * 12)).1)), some (.int (nI (bR (S 2) (t * 12)).2)), some (.int (nI t)), l4, l5] [] (u2 (u2 S 14 f) 15 d, PF R, 24) (some (.int (nI (bR (S 2) (T * 12)).1))) (u2 (u2 S 14 f) 15 d, PF R, 24)) (fun l4 l5 => ?_) (fun t ht ih l4 l5 => ?_) none none
      · skip
        refine G_iload_n rfl rfl ?_
        refine G_aload_n rfl rfl ?_
        refine H_getR rfl rfl rfl rfl rfl rfl ?_
        refine H_callV (et2) rfl rfl rfl rfl rfl rfl rfl rfl ?_
        refine G_icmp_ge rfl (fun h1 => ?_) (fun h1 => ?_)
        · skip
          refine G_iload_n rfl rfl ?_
          exact H_ret rfl rfl (rfl) (rfl)
        · exact absurd (Int32.le_refl _) h1
      · skip
        refine G_iload_n rfl rfl ?_
        refine G_aload_n rfl rfl ?_
        refine H_getR rfl rfl rfl rfl rfl rfl ?_
        refine H_callV (et2) rfl rfl rfl rfl rfl rfl rfl rfl ?_
        refine G_icmp_ge rfl (fun h1 => ?_) (fun h1 => ?_)
        · exact absurd h1 (ge_no ht (by omega))
        refine G_iconst rfl ?_
        refine H_ist_6_4 rfl rfl ?_
        refine down 12 (fun p => ∀ l5, Gm kX_bestReading 44 [some (.ref 0), some (.int (nI (bR (S 2) (t * 12 + p)).1)), some (.int (nI (bR (S 2) (t * 12 + p)).2)), some (.int (nI t)), some (.int (nI p)), l5] [] (u2 (u2 S 14 f) 15 d, PF R, 24) (some (.int (nI (bR (S 2) (T * 12)).1))) (u2 (u2 S 14 f) 15 d, PF R, 24)) (fun l5 => ?_) (fun p hp ih2 l5 => ?_) l5
        · skip
          refine G_iload rfl rfl ?_
          refine G_bipush rfl ?_
          refine G_icmp_ge rfl (fun h2 => ?_) (fun h2 => ?_)
          · skip
            refine H_inc_6_3 rfl rfl ?_
            refine G_goto rfl ?_
            have := ih (some (.int (nI 12))) l5
            rw [nI_succ, show (t + 1) * 12 = t * 12 + 12 by omega] at this
            exact this
          · exact absurd (by decide) h2
        · have en := ev_newPairs (u2 (u2 S 14 f) 15 d) R (t := t) (p := p) (by omega) hp
          rw [s14, js_N hJ (by omega) hp] at en
          have hle := bR_le (S 2) (t * 12 + p)
          have hle2 := nP_le (S 2) t p
          have ih2 := ih2 (some (.int (nI (nP (S 2) t p))))
          rw [← Nat.add_assoc, bR, show (t * 12 + p) / 12 = t by omega, show (t * 12 + p) % 12 = p by omega, nI_succ p] at ih2
          refine G_iload rfl rfl ?_
          refine G_bipush rfl ?_
          refine G_icmp_ge rfl (fun h2 => ?_) (fun h2 => ?_)
          · exact absurd h2 (ge_no hp (by decide))
          refine G_aload_n rfl rfl ?_
          refine H_getR rfl rfl rfl rfl rfl rfl ?_
          refine G_iload_n rfl rfl ?_
          refine G_iload rfl rfl ?_
          refine H_callV (en) rfl rfl rfl rfl rfl rfl rfl rfl ?_
          refine H_ist_6_5 rfl rfl ?_
          refine G_iload rfl rfl ?_
          refine G_iload_n rfl rfl ?_
          refine G_icmp_le rfl (fun h3 => ?_) (fun h3 => ?_)
          · have h4 : ¬ (bR (S 2) (t * 12 + p)).2 < nP (S 2) t p := fun q => absurd h3 (ge_no q (by omega))
            refine H_inc_6_4 rfl rfl ?_
            refine G_goto rfl ?_
            rw [if_neg h4] at ih2
            exact ih2
          · have h4 : (bR (S 2) (t * 12 + p)).2 < nP (S 2) t p := Decidable.byContradiction fun q => h3 (nI_le (by omega) (by omega))
            refine G_iload rfl rfl ?_
            refine H_ist_6_2 rfl rfl ?_
            refine G_iload_n rfl rfl ?_
            refine G_bipush rfl ?_
            refine G_imul rfl ?_
            refine G_iload rfl rfl ?_
            refine G_iadd rfl ?_
            rw [tp_nI]
            refine H_ist_6_1 rfl rfl ?_
            refine H_inc_6_4 rfl rfl ?_
            refine G_goto rfl ?_
            rw [if_pos h4] at ih2
            exact ih2
    · exact absurd (fun q => h0 ((nI_0iff (by omega)).mp q)) h
end XL2
