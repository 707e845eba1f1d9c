/-! the law's takes -/
section TAKES
variable {S0 S1 S2 : Sf} {R R2 : Rf} {T n m mh len c k np : Nat} {π : Nat → Int32} {x y : Int32} {l5 l11 l12 l13 l14 l15 : Option Value}
theorem PX_HI (h : PX S0 S1 len c) (hH : HI S0 R n) : HI S1 R n := by
  obtain ⟨h1, h2, h3, h4⟩ := hH
  refine ⟨h1, by rw [PX_3 h]; exact h2, h3, fun k hk => ?_⟩
  have := h1.1 k (by omega)
  rw [h.1 _ (scr_Rk h1 (by omega)) (by omega) (by omega)]
  exact h4 k hk
theorem AC_of_px (hH : HI S0 R n) (hG : GR (S0 2) T) (h : PX S0 S1 len c) (hl : len ≤ 60) : AC S0 R n S1 R := by
  obtain ⟨h1, h2, h3, h4⟩ := hH
  refine ⟨h1, h.1 9 (by decide) (by decide) (by decide), by rw [h.1 0 (by decide) (by decide) (by decide)], ⟨len, h.2.1, hl⟩, ⟨T, by rw [PX_2 h]; exact hG⟩, Or.inl ⟨rfl, PX_2 h, by rw [PX_3 h]; exact h2, fun k hk => ?_⟩⟩
  have := h1.1 k (by omega)
  exact h.1 _ (scr_Rk h1 (by omega)) (by omega) (by omega)
theorem AC_px (hH : HI S0 R n) (h : PX S0 S1 len c) (ha : AC S1 R n S2 R2) : AC S0 R n S2 R2 := by
  obtain ⟨a1, a2, a3, a4, a5, a6⟩ := ha
  obtain ⟨h1, h2, h3, h4⟩ := hH
  refine ⟨a1, by rw [a2]; exact h.1 9 (by decide) (by decide) (by decide), by rw [a3, h.1 0 (by decide) (by decide) (by decide)], a4, a5, ?_⟩
  rcases a6 with ⟨e, b1, b2, b3⟩ | ⟨b1, b2, b3⟩
  · refine Or.inl ⟨e, by rw [b1, PX_2 h], b2, fun k hk => ?_⟩
    have := h1.1 k (by omega)
    rw [b3 k hk]
    exact h.1 _ (scr_Rk h1 (by omega)) (by omega) (by omega)
  · exact Or.inr ⟨b1, b2, fun j hj => by rw [b3 j hj, PX_2 h]⟩
/-- behind a take -/
def TX (S1 : Sf) (R : Rf) (n len tk : Nat) (st : Option Int32) (row' : Nat → Int32) (S2 : Sf) : Prop :=
  S2 2 = row' ∧ (∀ i, i ∉ scr → i ≠ 0 → i ≠ 2 → i ≠ 10 → i ≠ 12 → S2 i = recS S1 R n i) ∧ S2 10 1 = 0 ∧ S2 0 3 = S1 0 3 ∧ (st = none → S2 0 6 = 0) ∧ ∀ r, st = some r → S2 0 6 = 1 ∧ S2 12 0 = r ∧ S2 12 1 = nI tk ∧ S2 12 2 = nI (sOf (S1 11) tk len).2
theorem TX_AC {tk : Nat} {st : Option Int32} {row' : Nat → Int32} (hH : HI S1 R n) (hG : GR (S1 2) T) (h : TX S1 R n len tk st row' S2) {T1 : Nat} (hG1 : GR row' T1) : AC S1 R n S2 (recR R n) := by
  obtain ⟨hR, hn, hn4, hh⟩ := hH
  obtain ⟨h2, h3, h10, h03, -⟩ := h
  have hN : recN n < 4 := by unfold recN; split <;> omega
  have hR' := RO_rec hR n
  have hs1 : S2 3 1 = nI (recN n + 1) := by
    rw [h3 3 (by decide) (by decide) (by decide) (by decide) (by decide)]
    unfold recS
    rw [u2_same, upd_same]
  have hk3 : ∀ k, k < 4 → S2 (recR R n k) = recS S1 R n (recR R n k) := fun k hk => by
    have := hR'.1 k hk
    exact h3 _ (scr_Rk hR' hk) (by omega) (by omega) (by omega) (by omega)
  have hrow : ∀ j, j < 101 → S2 (recR R n (recN n)) j = S1 2 j := fun j hj => by
    have r1 := hR'.1 (recN n) hN
    rw [hk3 _ hN]
    unfold recS
    rw [u2_ne (by omega), u2_same]
    exact if_pos hj
  refine ⟨hR', by rw [h3 9 (by decide) (by decide) (by decide) (by decide) (by decide)]; exact rec_oth hR hn4 (by decide), h03, ⟨0, h10, by decide⟩, ⟨T1, by rw [h2]; exact hG1⟩, Or.inr ⟨hs1, fun k hk => ?_, hrow⟩⟩
  by_cases e : k = recN n
  · subst e
    exact ⟨T, GR_cg hrow hG⟩
  · have hk' : k < recN n := by omega
    have r1 := hR'.1 k (by omega)
    have hne : recR R n k ≠ recR R n (recN n) := fun q => e (hR'.2 k (recN n) (by omega) hN q)
    rw [hk3 _ (by omega)]
    unfold recS
    rw [u2_ne (by omega), u2_ne hne]
    obtain ⟨T', hT'⟩ := hh (if n < 4 then k else k + 1) (by
      unfold recN at hk'
      by_cases z : n < 4
      · rw [if_pos z] at hk' ⊢; exact hk'
      · rw [if_neg z] at hk' ⊢; omega)
    refine ⟨T', ?_⟩
    have e9 : recR R n k = R (if n < 4 then k else k + 1) := by
      unfold recR
      by_cases z : n < 4
      · rw [if_pos z, if_pos z]
      · rw [if_neg z, if_neg z]
        have hk3 : k < 3 := by unfold recN at hk'; rw [if_neg z] at hk'; exact hk'
        rcases (show k = 0 ∨ k = 1 ∨ k = 2 by omega) with rfl | rfl | rfl <;> rfl
    rw [e9]
    exact hT'
theorem lk_fault (hX : PD S1 len) : LM S1 R kX_fault [.ref 0] (.int (gF (S1 11) len len 0 0)) := LM_of fun S hS => by
  have h := xm_fault S R (n := len) (by rw [hS 10 (by decide)]; exact hX.1) hX.2
  rw [hS 11 (by decide)] at h
  exact h
theorem md_take0 (hX : PD S1 len) (h : gF (S1 11) len len 0 0 ≠ -4) : LM S1 R kX_take [.ref 0] (.int (-2)) := LM_of fun S hS => xm_take0 S R (m := len) (by rw [hS 10 (by decide)]; exact hX.1) hX.2 (by rw [hS 11 (by decide)]; exact h)
def TQ1 (S1 : Sf) (R : Rf) (n len c T : Nat) (w : Value) (S2 : Sf) (R2 : Rf) : Prop := R2 = recR R n ∧ ∃ tk st row', w = .int (nI tk) ∧ TK (S1 11) len T (1 + c) 0 (S1 2) tk st row' ∧ TX S1 R n len tk st row' S2
theorem md_take (hH : HI S1 R n) (hG : GR (S1 2) T) (hX : PD S1 len) (hc : cnt (fun i => decide (S1 11 i = 44)) len = c) (h : gF (S1 11) len len 0 0 = -4) : MM S1 R kX_take [.ref 0] (TQ1 S1 R n len c T) := fun S hS => by
  have e2 : S 2 = S1 2 := hS 2 (by decide)
  have e11 : S 11 = S1 11 := hS 11 (by decide)
  obtain ⟨S', tk, st, row', hE, hk, f1, f2, f3, f4, f5⟩ := xm_take S R hH.1 (n := n) (m := len) (T := T) (by rw [hS 3 (by decide)]; exact hH.2.1) hH.2.2.1 (by rw [hS 10 (by decide)]; exact hX.1) hX.2 (by rw [e11]; exact h) (e2 ▸ hG.1) (e2 ▸ hG.2.2.1)
  rw [e11, e2, hc] at hk
  have e0 : S 0 = S1 0 := hS 0 (by decide)
  refine ⟨_, S', _, hE, rfl, tk, st, row', rfl, hk, f1, fun i h1 h2 h3 h4 h5 => ?_, by rw [f3, upd_same], ?_, fun e => ?_, fun r e => ?_⟩
  · rw [f2 i h1 h2 h3 h4 h5, u2_ne h2]
    exact recS_lk hH.1 hS h1
  · cases st with
    | none => rw [(f4 rfl).1, u2_same, upd_ne (by decide), e0]
    | some r => rw [(f5 r rfl).1, upd_ne (by decide), u2_same, upd_ne (by decide), e0]
  · rw [(f4 e).1, u2_same, upd_same]
  · obtain ⟨g1, g2⟩ := f5 r e
    rw [g1, g2, upd_same]
    refine ⟨rfl, ?_, ?_, ?_⟩
    · rw [upd_ne (by decide), upd_ne (by decide), upd_same]
    · rw [upd_ne (by decide), upd_same]
    · rw [upd_same, e11]
theorem lk_why (w : Int32) : LM S1 R kX_why [.ref 0, .int w] (.int (a_why S1 w)) := LM_of fun S hS => by
  have h := xm_why S R w
  have e : a_why S w = a_why S1 w := by unfold a_why; rw [hS 0 (by decide), hS 12 (by decide)]
  rw [e] at h
  exact h
theorem tk_bad {g : Int32} (hH0 : HI S0 R n) (hX : PX S0 S1 len c) (hl : len ≤ 60) (hH : HI S1 R n) (hG : GR (S1 2) T) (hπ : Pot (S1 2) π) (hg : g ≠ -4) (hj : ∃ j, j ≤ len ∧ g = nI j) (hX2 : PX S1 S2 0 0) : Y 0 (fun _ => 0) kLaw_takes 24 76 [some (.ref 0), some (.int x), some (.int (nI np)), some (.int 1), some (.long (lookV (S1 2) T)), none, some (.int (nI n)), some (.int (nI (tAll (S1 2) T))), some (.int (S1 2 97)), some (.int (S1 2 98)), some (.int (nI len)), some (.int g), some (.int (-2)), some (.int (nI len)), none, none] [] S2 R (PA S0 R n) := by
  have e2 := PX_2 hX2
  have hG2 : GR (S2 2) T := by rw [e2]; exact hG
  have hπ2 : Pot (S2 2) π := by rw [e2]; exact hπ
  have hm2 : S2 3 1 = nI n := by rw [PX_3 hX2]; exact hH.2.1
  obtain ⟨j, j1, j2⟩ := hj
  refine Y_iload_n rfl rfl ?_
  refine Y_if_eq_f rfl ((by decide)) ?_
  refine Y_iload rfl rfl ?_
  refine Y_bipush rfl ?_
  refine Y_icmp_ne_f rfl (rfl) ?_
  refine Y_iconst rfl ?_
  refine Y_goto rfl ?_
  refine Y_iload rfl rfl ?_
  refine Y_bipush rfl ?_
  refine Y_icmp_eq_f rfl (hg) ?_
  refine Y_iconst rfl ?_
  refine Y_goto rfl ?_
  refine Y_icmp_ne_f rfl (rfl) ?_
  refine Y_iconst rfl ?_
  refine Y_goto rfl ?_
  refine Y_ist_16_14 rfl rfl ?_
  refine Y_iload rfl rfl ?_
  refine Y_if_ge_f rfl ((by decide)) ?_
  refine Y_iload rfl rfl ?_
  refine Y_if_eq_f rfl ((by decide)) ?_
  refine Y_iload rfl rfl ?_
  refine Y_if_lt_f rfl ((by rw [j2]; exact nI_pos (by omega))) ?_
  refine Y_iload rfl rfl ?_
  refine Y_iload rfl rfl ?_
  refine Y_icmp_gt_f rfl ((by rw [j2]; exact nI_nlt j1 (by omega))) ?_
  refine Y_iload rfl rfl ?_
  refine Y_iload rfl rfl ?_
  refine Y_icmp_ne_f rfl (rfl) ?_
  refine Y_aload_n rfl rfl ?_
  refine Y_lookS (lk_look hG2 hπ2 hX2.2.1 hm2) rfl rfl rfl rfl ?_
  rw [e2]
  refine Y_lload rfl rfl ?_
  refine Y_lcmp rfl ?_
  refine Y_if_ne_f rfl ((by simp [lg_cmp])) ?_
  refine Y_aload_n rfl rfl ?_
  refine Y_bipush rfl ?_
  refine Y_look (lk_c13 hG2 hπ2 hX2.2.1 hm2) rfl rfl rfl rfl rfl ?_
  refine Y_iload rfl rfl ?_
  refine Y_icmp_ne_f rfl (rfl) ?_
  refine Y_iconst rfl ?_
  refine Y_goto rfl ?_
  exact Y_ret rfl rfl (fun S hS => PA_ret (AC_px hH0 hX (AC_of_px hH hG hX2 (by decide))) hH.2.2.1 S hS)
theorem AC_pr (hn4 : n ≤ 4) (ha : AC S0 R n S1 R2) (h : PX S1 S2 len c) (hl : len ≤ 60) : AC S0 R n S2 R2 := by
  obtain ⟨a1, a2, a3, a4, a5, a6⟩ := ha
  have hN : recN n < 4 := by unfold recN; split <;> omega
  have hk : ∀ k, k < 4 → S2 (R2 k) = S1 (R2 k) := fun k hk => by
    have := a1.1 k hk
    exact h.1 _ (scr_Rk a1 hk) (by omega) (by omega)
  refine ⟨a1, by rw [h.1 9 (by decide) (by decide) (by decide)]; exact a2, by rw [h.1 0 (by decide) (by decide) (by decide)]; exact a3, ⟨len, h.2.1, hl⟩, by rw [PX_2 h]; exact a5, ?_⟩
  rcases a6 with ⟨e, b1, b2, b3⟩ | ⟨b1, b2, b3⟩
  · subst e
    exact Or.inl ⟨rfl, by rw [PX_2 h]; exact b1, by rw [PX_3 h]; exact b2, fun k q => by rw [hk k (by omega)]; exact b3 k q⟩
  · exact Or.inr ⟨by rw [PX_3 h]; exact b1, fun k q => by rw [hk k (by omega)]; exact b2 k q, fun j hj => by rw [hk _ hN]; exact b3 j hj⟩
theorem TX_3 {tk : Nat} {st : Option Int32} {row' : Nat → Int32} (h : TX S1 R n len tk st row' S2) : S2 3 1 = nI (recN n + 1) := by
  rw [h.2.1 3 (by decide) (by decide) (by decide) (by decide) (by decide)]
  unfold recS
  rw [u2_same, upd_same]
/-- what why tells behind a take -/
def whV (st : Option Int32) : Int32 := match st with
  | none => -4
  | some r => r
theorem tk_good {tk : Nat} {st : Option Int32} {row' : Nat → Int32} {S3 : Sf} (hH0 : HI S0 R n) (hX : PX S0 S1 len c) (hl : len ≤ 60) (hH : HI S1 R n) (hG : GR (S1 2) T) (hcn : c + 1 = np) (hc : cnt (fun i => decide (S1 11 i = 44)) len = c) (hf : gF (S1 11) len len 0 0 = -4) (hk : TK (S1 11) len T (1 + c) 0 (S1 2) tk st row') (ht : TX S1 R n len tk st row' S2) (hX3 : PX S2 S3 0 0) : Y 0 (fun _ => 0) kLaw_takes 24 76 [some (.ref 0), some (.int x), some (.int (nI np)), some (.int 1), some (.long (lookV (S1 2) T)), none, some (.int (nI n)), some (.int (nI (tAll (S1 2) T))), some (.int (S1 2 97)), some (.int (S1 2 98)), some (.int (nI len)), some (.int (-4)), some (.int (nI tk)), some (.int 0), none, none] [] S3 (recR R n) (PA S0 R n) := by
  have hn4 := hH.2.2.1
  obtain ⟨g1, g2, g3, g4, g5, g6, g7⟩ := TK_f _ _ _ _ _ _ hG hk
  have ac := AC_px hH0 hX (AC_pr hn4 (TX_AC hH hG ht g1) hX3 (by decide))
  have e2 : S3 2 = row' := (PX_2 hX3).trans ht.1
  have hG3 : GR (S3 2) T := by rw [e2]; exact g1
  obtain ⟨π3, hπ3⟩ := hG3.2.2.1
  have hm3 : S3 3 1 = nI (recN n + 1) := by rw [PX_3 hX3]; exact TX_3 ht
  have hp3 := hX3.2.1
  have c60 : c ≤ len := by rw [← hc]; exact cnt_le _ _
  have h40 := hG.tall
  have e0 : S3 0 = S2 0 := hX3.1 0 (by decide) (by decide) (by decide)
  have e12 : S3 12 = S2 12 := hX3.1 12 (by decide) (by decide) (by decide)
  have wy : a_why S3 0 = whV st := by
    unfold a_why
    rw [if_neg (by decide), e0, e12]
    cases st with
    | none => rw [if_pos (ht.2.2.2.2.1 rfl)]; rfl
    | some r =>
      obtain ⟨q1, q2, -⟩ := ht.2.2.2.2.2 r rfl
      rw [if_neg (by rw [q1]; decide)]
      exact q2
  refine Y_iload_n rfl rfl ?_
  refine Y_if_eq_f rfl ((by decide)) ?_
  refine Y_iload rfl rfl ?_
  refine Y_bipush rfl ?_
  refine Y_icmp_ne_t rfl ((fun e => nI_pos (n := tk) (by omega) (by rw [e]; decide))) ?_
  refine Y_iconst rfl ?_
  refine Y_iload rfl rfl ?_
  refine Y_bipush rfl ?_
  refine Y_icmp_eq_t rfl (rfl) ?_
  refine Y_iconst rfl ?_
  refine Y_icmp_ne_f rfl (rfl) ?_
  refine Y_iconst rfl ?_
  refine Y_goto rfl ?_
  refine Y_ist_16_14 rfl rfl ?_
  refine Y_iload rfl rfl ?_
  refine Y_if_ge_t rfl (nI_pos' (by omega)) ?_
  refine Y_aload_n rfl rfl ?_
  refine Y_iconst rfl ?_
  refine Y_look ((lk_why 0).v wy) rfl rfl rfl rfl rfl ?_
  refine Y_ist_16_15 rfl rfl ?_
  refine Y_iload rfl rfl ?_
  refine Y_if_eq_f rfl ((by decide)) ?_
  refine Y_iload rfl rfl ?_
  refine Y_iload_n rfl rfl ?_
  refine Y_icmp_gt_f rfl (nI_nlt (by omega) (by omega)) ?_
  refine Y_iload rfl rfl ?_
  refine Y_if_ne_f rfl (rfl) ?_
  refine Y_aload_n rfl rfl ?_
  refine Y_bipush rfl ?_
  refine Y_look (lk_c13 hG3 hπ3 hp3 hm3) rfl rfl rfl rfl rfl ?_
  have K : Y 0 (fun _ => 0) kLaw_takes 24 216 [some (.ref 0), some (.int x), some (.int (nI np)), some (.int 1), some (.long (lookV (S1 2) T)), none, some (.int (nI n)), some (.int (nI (tAll (S1 2) T))), some (.int (S1 2 97)), some (.int (S1 2 98)), some (.int (nI len)), some (.int (-4)), some (.int (nI tk)), some (.int 0), some (.int 1), some (.int (whV st))] [] S3 (recR R n) (PA S0 R n) := by
    refine Y_aload_n rfl rfl ?_
    refine Y_iconst rfl ?_
    refine Y_look (lk_c1 hG3 hπ3 hp3 hm3) rfl rfl rfl rfl rfl ?_
    refine Y_iload rfl rfl ?_
    refine Y_iload rfl rfl ?_
    refine Y_iadd rfl ?_
    refine Y_icmp_ne_f rfl ((by rw [e2, g4, Nat.sub_zero, nI_add])) ?_
    refine Y_aload_n rfl rfl ?_
    refine Y_bipush rfl ?_
    refine Y_look (lk_c8 hG3 hπ3 hp3 hm3) rfl rfl rfl rfl rfl ?_
    refine Y_iload rfl rfl ?_
    refine Y_iload rfl rfl ?_
    refine Y_iadd rfl ?_
    refine Y_icmp_ne_f rfl ((by rw [e2, g5, Nat.sub_zero])) ?_
    refine Y_aload_n rfl rfl ?_
    refine Y_bipush rfl ?_
    refine Y_look (lk_c9 hG3 hπ3 hp3 hm3) rfl rfl rfl rfl rfl ?_
    cases st with
    | none =>
      obtain ⟨q1, q2⟩ := g6 rfl
      have etk : nI tk = nI np := congrArg nI (by omega)
      refine Y_iload rfl rfl ?_
      refine Y_iload rfl rfl ?_
      refine Y_if_le_t rfl ((by decide)) ?_
      refine Y_iconst rfl ?_
      refine Y_iadd rfl ?_
      refine Y_v (Int32.add_zero _) ?_
      refine Y_icmp_ne_f rfl ((by rw [e2, q2])) ?_
      refine Y_iload rfl rfl ?_
      refine Y_iload_n rfl rfl ?_
      refine Y_icmp_ne_f rfl (etk) ?_
      refine Y_iconst rfl ?_
      refine Y_goto rfl ?_
      refine Y_iload rfl rfl ?_
      refine Y_bipush rfl ?_
      refine Y_icmp_ne_f rfl (rfl) ?_
      refine Y_iconst rfl ?_
      refine Y_goto rfl ?_
      refine Y_icmp_ne_f rfl (rfl) ?_
      refine Y_iload rfl rfl ?_
      refine Y_bipush rfl ?_
      refine Y_icmp_eq_t rfl (rfl) ?_
      refine Y_iconst rfl ?_
      refine Y_goto rfl ?_
      exact Y_ret rfl rfl (fun S hS => PA_ret ac hn4 S hS)
    | some r =>
      obtain ⟨q1, q2⟩ := g7 r rfl
      obtain ⟨-, -, w1, w2⟩ := ht.2.2.2.2.2 r rfl
      have wy1 : a_why S3 1 = nI tk := by
        unfold a_why
        rw [if_neg (by decide), e0, e12, if_neg (by rw [(ht.2.2.2.2.2 r rfl).1]; decide)]
        exact w1
      have wy2 : a_why S3 2 = nI (sOf (S1 11) tk len).2 := by
        unfold a_why
        rw [if_neg (by decide), e0, e12, if_neg (by rw [(ht.2.2.2.2.2 r rfl).1]; decide)]
        exact w2
      obtain ⟨s1, s2⟩ := start_ge hl hf (k := tk) (by omega)
      have r4 : r ≠ -4 := by rcases q2 with ⟨q | q, -⟩ | ⟨q | q, -⟩ <;> rw [q] <;> decide
      have F : Y 0 (fun _ => 0) kLaw_takes 24 323 [some (.ref 0), some (.int x), some (.int (nI np)), some (.int 1), some (.long (lookV (S1 2) T)), none, some (.int (nI n)), some (.int (nI (tAll (S1 2) T))), some (.int (S1 2 97)), some (.int (S1 2 98)), some (.int (nI len)), some (.int (-4)), some (.int (nI tk)), some (.int 0), some (.int 1), some (.int r)] [] S3 (recR R n) (PA S0 R n) := by
        refine Y_aload_n rfl rfl ?_
        refine Y_iconst rfl ?_
        refine Y_look ((lk_why 1).v wy1) rfl rfl rfl rfl rfl ?_
        refine Y_iload rfl rfl ?_
        refine Y_icmp_ne_f rfl (rfl) ?_
        refine Y_aload_n rfl rfl ?_
        refine Y_iconst rfl ?_
        refine Y_look ((lk_why 2).v wy2) rfl rfl rfl rfl rfl ?_
        refine Y_iconst rfl ?_
        refine Y_iload rfl rfl ?_
        refine Y_imul rfl ?_
        refine Y_icmp_lt_f rfl ((by rw [show (5 : Int32) * nI tk = nI (5 * tk) from nI_mulI 5 tk]; exact nI_nlt s1 (by omega))) ?_
        refine Y_aload_n rfl rfl ?_
        refine Y_iconst rfl ?_
        refine Y_look ((lk_why 2).v wy2) rfl rfl rfl rfl rfl ?_
        refine Y_iload rfl rfl ?_
        refine Y_icmp_ge_f rfl (nI_ge s2 (by omega)) ?_
        refine Y_iconst rfl ?_
        refine Y_goto rfl ?_
        exact Y_ret rfl rfl (fun S hS => PA_ret ac hn4 S hS)
      have M : Y 0 (fun _ => 0) kLaw_takes 24 265 [some (.ref 0), some (.int x), some (.int (nI np)), some (.int 1), some (.long (lookV (S1 2) T)), none, some (.int (nI n)), some (.int (nI (tAll (S1 2) T))), some (.int (S1 2 97)), some (.int (S1 2 98)), some (.int (nI len)), some (.int (-4)), some (.int (nI tk)), some (.int 0), some (.int 1), some (.int r)] [] S3 (recR R n) (PA S0 R n) := by
        refine Y_iload rfl rfl ?_
        refine Y_iload_n rfl rfl ?_
        refine Y_icmp_ne_t rfl ((fun e => by have := (nI_eq (by omega) (by omega)).mp e; omega)) ?_
        refine Y_iconst rfl ?_
        refine Y_iload rfl rfl ?_
        refine Y_bipush rfl ?_
        refine Y_icmp_ne_t rfl (r4) ?_
        refine Y_iconst rfl ?_
        refine Y_icmp_ne_f rfl (rfl) ?_
        refine Y_iload rfl rfl ?_
        refine Y_bipush rfl ?_
        refine Y_icmp_eq_f rfl (r4) ?_
        rcases q2 with ⟨q | q, -⟩ | ⟨q | q, -⟩
        · refine Y_iload rfl rfl ?_
          refine Y_iconst rfl ?_
          refine Y_icmp_eq_t rfl (q) ?_
          exact F
        · refine Y_iload rfl rfl ?_
          refine Y_iconst rfl ?_
          refine Y_icmp_eq_f rfl ((by rw [q]; decide)) ?_
          refine Y_iload rfl rfl ?_
          refine Y_iconst rfl ?_
          refine Y_icmp_eq_t rfl (q) ?_
          exact F
        · refine Y_iload rfl rfl ?_
          refine Y_iconst rfl ?_
          refine Y_icmp_eq_f rfl ((by rw [q]; decide)) ?_
          refine Y_iload rfl rfl ?_
          refine Y_iconst rfl ?_
          refine Y_icmp_eq_f rfl ((by rw [q]; decide)) ?_
          refine Y_iload rfl rfl ?_
          refine Y_iconst rfl ?_
          refine Y_icmp_eq_t rfl (q) ?_
          exact F
        · refine Y_iload rfl rfl ?_
          refine Y_iconst rfl ?_
          refine Y_icmp_eq_f rfl ((by rw [q]; decide)) ?_
          refine Y_iload rfl rfl ?_
          refine Y_iconst rfl ?_
          refine Y_icmp_eq_f rfl ((by rw [q]; decide)) ?_
          refine Y_iload rfl rfl ?_
          refine Y_iconst rfl ?_
          refine Y_icmp_eq_f rfl ((by rw [q]; decide)) ?_
          refine Y_iload rfl rfl ?_
          refine Y_bipush rfl ?_
          refine Y_icmp_ne_f rfl (q) ?_
          exact F
      rcases q2 with ⟨q, q3⟩ | ⟨q, q3⟩
      · refine Y_iload rfl rfl ?_
        refine Y_iload rfl rfl ?_
        refine Y_if_le_f rfl ((by show ¬ r ≤ 0; rcases q with e | e <;> rw [e] <;> decide)) ?_
        refine Y_iconst rfl ?_
        refine Y_goto rfl ?_
        refine Y_iadd rfl ?_
        refine Y_icmp_ne_f rfl ((by rw [e2, q3])) ?_
        exact M
      · refine Y_iload rfl rfl ?_
        refine Y_iload rfl rfl ?_
        refine Y_if_le_t rfl ((by show r ≤ 0; rcases q with e | e <;> rw [e] <;> decide)) ?_
        refine Y_iconst rfl ?_
        refine Y_iadd rfl ?_
        refine Y_v (Int32.add_zero _) ?_
        refine Y_icmp_ne_f rfl ((by rw [e2, q3])) ?_
        exact M
  by_cases h4 : n < 4
  · refine Y_iload rfl rfl ?_
    refine Y_iconst rfl ?_
    refine Y_icmp_ge_f rfl (nI_ge (b := 4) h4 (by decide)) ?_
    refine Y_iload rfl rfl ?_
    refine Y_iconst rfl ?_
    refine Y_iadd rfl ?_
    refine Y_goto rfl ?_
    refine Y_icmp_ne_f rfl ((by unfold recN; rw [if_pos h4, nI_succ])) ?_
    exact K
  · have e4 : n = 4 := by omega
    subst e4
    refine Y_iload rfl rfl ?_
    refine Y_iconst rfl ?_
    refine Y_icmp_ge_t rfl ((by decide)) ?_
    refine Y_iconst rfl ?_
    refine Y_icmp_ne_f rfl (rfl) ?_
    exact K
theorem md_takes (hH : HI S0 R n) (hG : GR (S0 2) T) (hπ : Pot (S0 2) π) (hP : PD S0 m) (x : Int32) : MM S0 R kLaw_takes [.ref 0, .int x] (fun w S1 R1 => w = .int 1 ∧ AC S0 R n S1 R1) := by
  refine MM_mk [some (.ref 0), some (.int x), none, none, none, none, none, none, none, none, none, none, none, none, none, none] rfl rfl rfl rfl rfl ?_
  refine Y_iload_n rfl rfl ?_
  refine Y_bipush rfl ?_
  refine Y_lookS (lk_low (N := 7) (by decide) (by decide) _) rfl rfl rfl rfl ?_
  refine Y_ist_16_2 rfl rfl ?_
  refine Y_aload_n rfl rfl ?_
  refine Y_iload_n rfl rfl ?_
  refine Y_deedS (md_types hG hπ hH.2.1 hP x) rfl rfl rfl rfl (fun w S1 R1 hQ => ?_)
  obtain ⟨rfl, rfl, len, c, hl, hX, hc⟩ := hQ
  have hH1 := PX_HI hX hH
  have e2 := PX_2 hX
  have hG1 : GR (S1 2) T := by rw [e2]; exact hG
  have hπ1 : Pot (S1 2) π := by rw [e2]; exact hπ
  have hP1 : PD S1 len := ⟨hX.2.1, hl⟩
  refine Y_ist_16_3 rfl rfl ?_
  refine Y_aload_n rfl rfl ?_
  refine Y_lookS (lk_look hG1 hπ1 hX.2.1 hH1.2.1) rfl rfl rfl rfl ?_
  refine Y_lst_16_4 rfl rfl ?_
  refine Y_aload_n rfl rfl ?_
  refine Y_bipush rfl ?_
  refine Y_look (lk_c13 hG1 hπ1 hX.2.1 hH1.2.1) rfl rfl rfl rfl rfl ?_
  refine Y_ist_16_6 rfl rfl ?_
  refine Y_aload_n rfl rfl ?_
  refine Y_iconst rfl ?_
  refine Y_look (lk_c1 hG1 hπ1 hX.2.1 hH1.2.1) rfl rfl rfl rfl rfl ?_
  refine Y_ist_16_7 rfl rfl ?_
  refine Y_aload_n rfl rfl ?_
  refine Y_bipush rfl ?_
  refine Y_look (lk_c8 hG1 hπ1 hX.2.1 hH1.2.1) rfl rfl rfl rfl rfl ?_
  refine Y_ist_16_8 rfl rfl ?_
  refine Y_aload_n rfl rfl ?_
  refine Y_bipush rfl ?_
  refine Y_look (lk_c9 hG1 hπ1 hX.2.1 hH1.2.1) rfl rfl rfl rfl rfl ?_
  refine Y_ist_16_9 rfl rfl ?_
  refine Y_aload_n rfl rfl ?_
  refine Y_bipush rfl ?_
  refine Y_look (lk_c12 hG1 hπ1 hX.2.1 hH1.2.1) rfl rfl rfl rfl rfl ?_
  refine Y_ist_16_10 rfl rfl ?_
  refine Y_aload_n rfl rfl ?_
  refine Y_look (lk_fault hP1) rfl rfl rfl rfl rfl ?_
  by_cases hf : gF (S1 11) len len 0 0 = -4
  · have hcn : c + 1 = lw x 7 := by
      rcases hc with h | h | ⟨h1, h2⟩
      · exact h
      · exact absurd h (no_empty hl hf)
      · exact absurd h2 (no_trail hl hf h1)
    rw [hf]
    refine Y_ist_16_11 rfl rfl ?_
    refine Y_aload_n rfl rfl ?_
    refine Y_deed (md_take hH1 hG1 hP1 hX.2.2 hf) rfl rfl rfl rfl rfl (fun w S2 R2 hQ => ?_)
    obtain ⟨rfl, tk, st, row', rfl, hk, ht⟩ := hQ
    refine Y_ist_16_12 rfl rfl ?_
    refine Y_aload_n rfl rfl ?_
    refine Y_deed (md_clear (m := 0) ⟨ht.2.2.1, by decide⟩) rfl rfl rfl rfl rfl (fun w S3 R3 hQ3 => ?_)
    obtain ⟨rfl, rfl, hX3⟩ := hQ3
    refine Y_ist_16_13 rfl rfl ?_
    exact tk_good hH hX hl hH1 hG1 hcn hX.2.2 hf hk ht hX3
  · refine Y_ist_16_11 rfl rfl ?_
    refine Y_aload_n rfl rfl ?_
    refine Y_look (md_take0 hP1 hf) rfl rfl rfl rfl rfl ?_
    refine Y_ist_16_12 rfl rfl ?_
    refine Y_aload_n rfl rfl ?_
    refine Y_deed (md_clear hP1) rfl rfl rfl rfl rfl (fun w S2 R2 hQ => ?_)
    obtain ⟨rfl, rfl, hX2⟩ := hQ
    refine Y_ist_16_13 rfl rfl ?_
    refine tk_bad hH hX hl hH1 hG1 hπ1 hf ?_ hX2
    rcases gF_rng (S1 11) len len 0 0 (by omega) with h | h
    · exact absurd h hf
    · exact h
end TAKES
