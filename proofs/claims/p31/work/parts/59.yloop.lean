/-! the law's own loop -/
section LOOP
variable {L : Nat} {xs : Nat → Int32} {S0 S1 : Sf} {R R1 : Rf} {T n m Ts i : Nat} {π : Nat → Int32} {kept was : Int64} {l6 l7 l8 l9 l10 l11 l12 : Option Value}
def PL : Po := fun r _ _ => r = some (.int 1)
def LI (S : Sf) (R : Rf) (kept : Int64) : Prop := ∃ n T m Ts, HI S R n ∧ GR (S 2) T ∧ PD S m ∧ S 0 3 ≠ 0 ∧ GR (S 9) Ts ∧ lookV (S 9) Ts = kept
theorem Y_lot {k n0 pc nx b wp ix j : Nat} {v : Int32} {ls : Lc} {rest : List Value} {P : Po} (hk2 : Nat.blt k 2 = true) (hL : L < 2 ^ 31) (hj : j < 2 ^ 31) (hc : ct k pc = (57, nx, kLaw_lot, b, wp, ix, v)) (hrl : Nat.ble rest.length 4 = true) (kk : ∀ v : Int32, Y L xs k n0 nx ls (.int v :: rest) S0 R P) : Y L xs k n0 pc ls (.int (nI j) :: .ref 1000 :: rest) S0 R P := fun S hS => by
  obtain ⟨v, e⟩ := ex_lot (xs := xs) hL S R hj
  obtain ⟨r, S', R', hp, g⟩ := kk v S hS
  exact ⟨r, S', R', hp, G_callX (a := 0) hk2 e hc rfl rfl hrl rfl g⟩
theorem DX_HI {row : Nat → Int32} (hH : HI S0 R n) (hG : GR (S0 2) T) (h : DX S0 R n S1 R1 row) : HI S1 R1 (recN n + 1) ∧ ∀ j, j < 101 → S1 (R1 (recN n)) j = S0 2 j := by
  obtain ⟨hR, hn, hn4, hh⟩ := hH
  have hN : recN n < 4 := by unfold recN; split <;> omega
  have hR' := RO_rec hR n
  have hs1 := DX_n h
  obtain ⟨rfl, h2, h3⟩ := h
  have hrow : ∀ j, j < 101 → S1 (recR R n (recN n)) j = S0 2 j := fun j hj => by
    have r1 := hR'.1 (recN n) hN
    rw [h3 _ (scr_Rk hR' hN) (by omega)]
    unfold recS
    rw [u2_ne (by omega), u2_same]
    exact if_pos hj
  refine ⟨⟨hR', hs1, by omega, fun k hk => ?_⟩, hrow⟩
  by_cases e : k = recN n
  · subst e
    exact ⟨T, GR_cg hrow hG⟩
  · have hk' : k < recN n := by omega
    have r1 := hR'.1 k (by omega)
    have hne : recR R n k ≠ recR R n (recN n) := fun q => e (hR'.2 k (recN n) (by omega) hN q)
    rw [h3 _ (scr_Rk hR' (by omega)) (by omega)]
    unfold recS
    rw [u2_ne (by omega), u2_ne hne]
    obtain ⟨T', hT'⟩ := hh (if n < 4 then k else k + 1) (by
      unfold recN at hk'
      by_cases z : n < 4
      · rw [if_pos z] at hk' ⊢; exact hk'
      · rw [if_neg z] at hk' ⊢; omega)
    refine ⟨T', ?_⟩
    have e9 : recR R n k = R (if n < 4 then k else k + 1) := by
      unfold recR
      by_cases z : n < 4
      · rw [if_pos z, if_pos z]
      · rw [if_neg z, if_neg z]
        have hk3 : k < 3 := by unfold recN at hk'; rw [if_neg z] at hk'; exact hk'
        rcases (show k = 0 ∨ k = 1 ∨ k = 2 by omega) with rfl | rfl | rfl <;> rfl
    rw [e9]
    exact hT'
theorem UQ_HI {w : Value} (hH : HI S0 R (n + 1)) (h : UQ S0 R n w S1 R1) : HI S1 R1 n := by
  obtain ⟨-, rfl, h1, h2, -⟩ := h
  refine ⟨hH.1, h2, by have := hH.2.2.1; omega, fun k hk => ?_⟩
  have hn4 := hH.2.2.1
  have := hH.1.1 k (by omega)
  rw [h1 _ (scr_Rk hH.1 (by omega)) (by omega) (by omega) (by omega) (by omega)]
  exact hH.2.2.2 k (by omega)
theorem UQ_LI {w : Value} (hH : HI S0 R (n + 1)) (hP : PD S0 m) (h3 : S0 0 3 ≠ 0) (h9 : GR (S0 9) Ts) (hk : lookV (S0 9) Ts = kept) (h : UQ S0 R n w S1 R1) : LI S1 R1 kept := by
  obtain ⟨T', hT'⟩ := hH.2.2.2 n (by omega)
  exact ⟨n, T', m, Ts, UQ_HI hH h, GR_cg h.2.2.2.2.2.2 hT', by rw [PD, h.2.2.1 10 (by decide) (by decide) (by decide) (by decide) (by decide)]; exact hP, by rw [h.2.2.2.2.2.1]; exact h3, by rw [h.2.2.2.2.1]; exact h9, by rw [h.2.2.2.2.1]; exact hk⟩
variable {now : Int32}
theorem lp_336 (hi : i < 54) (hI : LI S0 R kept) (nx : (∀ S R (kept : Int64) (l6 l7 l8 l9 l10 l11 l12 : Option Value), LI S R kept → Y L xs 0 0 62 [some (.ref 1000), some (.ref 0), some (.int 1), some (.long kept), none, some (.int (nI (i + 1))), l6, l7, l8, l9, l10, l11, l12] [] S R PL)) : Y L xs 0 0 336 [some (.ref 1000), some (.ref 0), some (.int 1), some (.long kept), none, some (.int (nI i)), l6, l7, l8, l9, l10, some (.int now), l12] [] S0 R PL := by
  have hI0 := hI
  obtain ⟨n, T, m, Ts, hH, hG, hP, h3, h9, hk⟩ := hI
  obtain ⟨π, hπ⟩ := hG.2.2.1
  have fin : ∀ S R l12, LI S R kept → Y L xs 0 0 385 [some (.ref 1000), some (.ref 0), some (.int 1), some (.long kept), none, some (.int (nI i)), l6, l7, l8, l9, l10, some (.int now), l12] [] S R PL := fun S R l12 h => by
    refine Y_inc_13_5 rfl rfl ?_
    refine Y_goto rfl ?_
    have := nx S R kept l6 l7 l8 l9 l10 (some (.int now)) l12 h
    rw [nI_succ i] at this
    exact this
  refine Y_iload_n rfl rfl ?_
  refine Y_if_eq_f rfl ((by decide)) ?_
  refine Y_iload rfl rfl ?_
  refine Y_bipush rfl ?_
  refine Y_irem rfl (by decide) ?_
  refine Y_v (nI_rem (a := i) (b := 11) (by omega) (by decide)) ?_
  by_cases h11 : i % 11 = 10
  · refine Y_bipush rfl ?_
    refine Y_icmp_ne_f rfl ((by rw [h11]; rfl)) ?_
    refine Y_aload_n rfl rfl ?_
    refine Y_bipush rfl ?_
    refine Y_look (lk_c13 hG hπ hP.1 hH.2.1) rfl rfl rfl rfl rfl ?_
    match n, hH with
    | 0, hH =>
      refine Y_ist_13_12 rfl rfl ?_
      refine Y_aload_n rfl rfl ?_
      refine Y_look (md_undo0 hH) rfl rfl rfl rfl rfl ?_
      refine Y_iload rfl rfl ?_
      refine Y_if_ne_f rfl (rfl) ?_
      refine Y_bipush rfl ?_
      refine Y_goto rfl ?_
      refine Y_icmp_ne_f rfl (rfl) ?_
      refine Y_iconst rfl ?_
      refine Y_goto rfl ?_
      refine Y_ist_13_2 rfl rfl ?_
      exact fin _ _ _ hI0
    | k + 1, hH =>
      refine Y_ist_13_12 rfl rfl ?_
      refine Y_aload_n rfl rfl ?_
      refine Y_deed (md_undo hH) rfl rfl rfl rfl rfl (fun w S1 R1 hQ => ?_)
      have hI1 := UQ_LI hH hP h3 h9 hk hQ
      obtain ⟨rfl, hQ2⟩ := hQ
      have hn4 := hH.2.2.1
      refine Y_iload rfl rfl ?_
      refine Y_if_ne_t rfl (nI_ne0 (by omega) (by omega)) ?_
      refine Y_iload rfl rfl ?_
      refine Y_iconst rfl ?_
      refine Y_isub rfl ?_
      refine Y_icmp_ne_f rfl ((nI_pred k).symm) ?_
      refine Y_iconst rfl ?_
      refine Y_goto rfl ?_
      refine Y_ist_13_2 rfl rfl ?_
      exact fin _ _ _ hI1
  · refine Y_bipush rfl ?_
    refine Y_icmp_ne_t rfl ((fun e => h11 ((nI_eq (b := 10) (by omega) (by decide)).mp e))) ?_
    exact fin _ _ _ hI0
theorem lp_267 (hi : i < 54) (hI : LI S0 R kept) (nx : (∀ S R (kept : Int64) (l6 l7 l8 l9 l10 l11 l12 : Option Value), LI S R kept → Y L xs 0 0 62 [some (.ref 1000), some (.ref 0), some (.int 1), some (.long kept), none, some (.int (nI (i + 1))), l6, l7, l8, l9, l10, l11, l12] [] S R PL)) : Y L xs 0 0 267 [some (.ref 1000), some (.ref 0), some (.int 1), some (.long kept), none, some (.int (nI i)), l6, l7, l8, l9, l10, some (.int now), l12] [] S0 R PL := by
  have hI0 := hI
  obtain ⟨n, T, m, Ts, hH, hG, hP, h3, h9, hk⟩ := hI
  refine Y_iload_n rfl rfl ?_
  refine Y_if_eq_f rfl ((by decide)) ?_
  refine Y_iload rfl rfl ?_
  refine Y_bipush rfl ?_
  refine Y_irem rfl (by decide) ?_
  refine Y_v (nI_rem (a := i) (b := 15) (by omega) (by decide)) ?_
  by_cases h15 : i % 15 = 14
  · refine Y_bipush rfl ?_
    refine Y_icmp_ne_f rfl ((by rw [h15]; rfl)) ?_
    refine Y_aload_n rfl rfl ?_
    refine Y_deed (md_restore hH h3 h9) rfl rfl rfl rfl rfl (fun w S1 R1 hQ => ?_)
    obtain ⟨rfl, dx⟩ := hQ
    have hn4 := hH.2.2.1
    have ecp : ∀ j, j < 101 → cpy (S0 9) (S0 2) 101 j = S0 9 j := fun j hj => if_pos hj
    have hg : GR (cpy (S0 9) (S0 2) 101) Ts := GR_cg ecp h9
    have e2 := dx.2.1
    have hG1 : GR (S1 2) Ts := by rw [e2]; exact hg
    obtain ⟨π1, hπ1⟩ := hG1.2.2.1
    obtain ⟨hH1, hrow⟩ := DX_HI hH hG dx
    have ho := fun i h1 h2 h3 => DX_o hH.1 hn4 dx (i := i) h1 h2 h3
    have hP1 : PD S1 m := by rw [PD, ho 10 (by decide) (by decide) (by decide)]; exact hP
    have el : lookV (S1 2) Ts = kept := by rw [e2, lookV_cg ecp h9.1.2.1]; exact hk
    refine Y_ist_13_12 rfl rfl ?_
    refine Y_iload rfl rfl ?_
    refine Y_aload_n rfl rfl ?_
    refine Y_iconst rfl ?_
    refine Y_look (lk_c1 hG1 hπ1 hP1.1 hH1.2.1) rfl rfl rfl rfl rfl ?_
    refine Y_icmp_ne_f rfl ((by rw [e2])) ?_
    refine Y_aload_n rfl rfl ?_
    refine Y_lookS (lk_look hG1 hπ1 hP1.1 hH1.2.1) rfl rfl rfl rfl ?_
    rw [el]
    refine Y_lload_n rfl rfl ?_
    refine Y_lcmp rfl ?_
    refine Y_if_ne_f rfl ((by simp [lg_cmp])) ?_
    refine Y_aload_n rfl rfl ?_
    refine Y_deed (md_undo hH1) rfl rfl rfl rfl rfl (fun w S2 R2 hQ2 => ?_)
    have hH2 := UQ_HI hH1 hQ2
    obtain ⟨rfl, rfl, ot, -, h29, h20, hr2⟩ := hQ2
    have er2 : ∀ j, j < 101 → S2 2 j = S0 2 j := fun j hj => by rw [hr2 j hj, hrow j hj]
    have hG2 : GR (S2 2) T := GR_cg er2 hG
    have hP2 : PD S2 m := by rw [PD, ot 10 (by decide) (by decide) (by decide) (by decide) (by decide)]; exact hP1
    refine Y_if_lt_f rfl (nI_pos (by have := hH2.2.2.1; omega)) ?_
    refine Y_aload_n rfl rfl ?_
    refine Y_deed (md_save hG2) rfl rfl rfl rfl rfl (fun w S3 R3 hQ3 => ?_)
    obtain ⟨rfl, rfl, s1, s2, s3⟩ := hQ3
    have e32 : S3 2 = S2 2 := s1 2 (by decide) (by decide) (by decide)
    have hG3 : GR (S3 2) T := by rw [e32]; exact hG2
    obtain ⟨π3, hπ3⟩ := hG3.2.2.1
    have hP3 : PD S3 m := by rw [PD, s1 10 (by decide) (by decide) (by decide)]; exact hP2
    have hH3 : HI S3 R3 (recN n) := by
      obtain ⟨a1, a2, a3, a4⟩ := hH2
      refine ⟨a1, by rw [s1 3 (by decide) (by decide) (by decide)]; exact a2, a3, fun k hk => ?_⟩
      have := a1.1 k (by omega)
      rw [s1 _ (scr_Rk a1 (by omega)) (by omega) (by omega)]
      exact a4 k hk
    refine Y_aload_n rfl rfl ?_
    refine Y_iconst rfl ?_
    refine Y_look (lk_c1 hG3 hπ3 hP3.1 hH3.2.1) rfl rfl rfl rfl rfl ?_
    refine Y_icmp_ne_f rfl ((by rw [e32])) ?_
    refine Y_iconst rfl ?_
    refine Y_goto rfl ?_
    refine Y_ist_13_2 rfl rfl ?_
    refine Y_aload_n rfl rfl ?_
    refine Y_lookS (lk_look hG3 hπ3 hP3.1 hH3.2.1) rfl rfl rfl rfl ?_
    refine Y_lst_13_3 rfl rfl ?_
    refine lp_336 hi ⟨recN n, T, m, T, hH3, hG3, hP3, by rw [s2]; decide, GR_cg s3 hG2, ?_⟩ nx
    exact lookV_cg (fun j hj => by rw [s3 j hj, e32]) hG3.1.2.1
  · refine Y_bipush rfl ?_
    refine Y_icmp_ne_t rfl ((fun e => h15 ((nI_eq (b := 14) (by omega) (by decide)).mp e))) ?_
    exact lp_336 hi hI0 nx
/-- behind an act: the history's length, what was recorded -/
def AN (S0 : Sf) (R : Rf) (n : Nat) (S1 : Sf) (R1 : Rf) (n1 : Nat) : Prop := HI S1 R1 n1 ∧ (n1 = n ∧ (n = 4 ∨ S1 2 = S0 2) ∨ n1 = n + 1 ∧ ∀ j, j < 101 → S1 (R1 n) j = S0 2 j)
theorem AC_AN (hH : HI S0 R n) (h : AC S0 R n S1 R1) : ∃ n1, AN S0 R n S1 R1 n1 := by
  obtain ⟨h1, h2, h3, h4, h5, h6⟩ := h
  obtain ⟨hR, hn, hn4, hh⟩ := hH
  rcases h6 with ⟨rfl, b1, b2, b3⟩ | ⟨b1, b2, b3⟩
  · exact ⟨n, ⟨h1, b2, hn4, fun k hk => by rw [b3 k hk]; exact hh k hk⟩, Or.inl ⟨rfl, Or.inr b1⟩⟩
  · have hN : recN n < 4 := by unfold recN; split <;> omega
    refine ⟨recN n + 1, ⟨h1, b1, by omega, b2⟩, ?_⟩
    by_cases h4 : n < 4
    · have e : recN n = n := if_pos h4
      rw [e] at b3 ⊢
      exact Or.inr ⟨rfl, b3⟩
    · have e : recN n = 3 := if_neg h4
      exact Or.inl ⟨by omega, Or.inl (by omega)⟩
variable {n1 T1 m1 : Nat} {y : Int32}
theorem lp_217 (hi : i < 54) (hn4 : n ≤ 4) (hG : GR (S0 2) T) (hw : lookV (S0 2) T = was) (hA : AN S0 R n S1 R1 n1) (hG1 : GR (S1 2) T1) (hP : PD S1 m) (h3 : S1 0 3 ≠ 0) (h9 : GR (S1 9) Ts) (hk : lookV (S1 9) Ts = kept) (nx : (∀ S R (kept : Int64) (l6 l7 l8 l9 l10 l11 l12 : Option Value), LI S R kept → Y L xs 0 0 62 [some (.ref 1000), some (.ref 0), some (.int 1), some (.long kept), none, some (.int (nI (i + 1))), l6, l7, l8, l9, l10, l11, l12] [] S R PL)) : Y L xs 0 0 217 [some (.ref 1000), some (.ref 0), some (.int 1), some (.long kept), none, some (.int (nI i)), l6, some (.int y), some (.long was), none, some (.int (nI n)), some (.int (nI n1)), l12] [] S1 R1 PL := by
  obtain ⟨hH1, hA2⟩ := hA
  have hI1 : LI S1 R1 kept := ⟨n1, T1, m, Ts, hH1, hG1, hP, h3, h9, hk⟩
  refine Y_iload_n rfl rfl ?_
  refine Y_if_eq_f rfl ((by decide)) ?_
  refine Y_iload rfl rfl ?_
  refine Y_iload rfl rfl ?_
  refine Y_iconst rfl ?_
  refine Y_iadd rfl ?_
  refine Y_v (nI_1 n) ?_
  rcases hA2 with ⟨e1, -⟩ | ⟨e1, hrow⟩
  · refine Y_icmp_ne_t rfl ((by rw [e1]; exact fun e => by have := (nI_eq (by omega) (by omega)).mp e; omega)) ?_
    exact lp_267 hi hI1 nx
  · subst e1
    refine Y_icmp_ne_f rfl (rfl) ?_
    refine Y_iload rfl rfl ?_
    refine Y_bipush rfl ?_
    refine Y_ishr rfl ?_
    refine Y_iconst rfl ?_
    refine Y_lookS (lk_low (N := 3) (by decide) (by decide) _) rfl rfl rfl rfl ?_
    by_cases h0 : nI (lw (y >>> (8 &&& 31)) 3) = 0
    · refine Y_if_ne_f rfl (h0) ?_
      refine Y_aload_n rfl rfl ?_
      refine Y_deed (md_undo hH1) rfl rfl rfl rfl rfl (fun w S2 R2 hQ => ?_)
      have hI2 := UQ_LI hH1 hP h3 h9 hk hQ
      have hH2 := UQ_HI hH1 hQ
      obtain ⟨rfl, rfl, ot, -, -, -, hr2⟩ := hQ
      have er2 : ∀ j, j < 101 → S2 2 j = S0 2 j := fun j hj => by rw [hr2 j hj, hrow j hj]
      have hG2 : GR (S2 2) T := GR_cg er2 hG
      obtain ⟨π2, hπ2⟩ := hG2.2.2.1
      have hP2 : PD S2 m := by rw [PD, ot 10 (by decide) (by decide) (by decide) (by decide) (by decide)]; exact hP
      refine Y_iload rfl rfl ?_
      refine Y_icmp_ne_f rfl (rfl) ?_
      refine Y_aload_n rfl rfl ?_
      refine Y_lookS (lk_look hG2 hπ2 hP2.1 hH2.2.1) rfl rfl rfl rfl ?_
      rw [lookV_cg er2 hG.1.2.1, hw]
      refine Y_lload rfl rfl ?_
      refine Y_lcmp rfl ?_
      refine Y_if_ne_f rfl ((by simp [lg_cmp])) ?_
      refine Y_iconst rfl ?_
      refine Y_goto rfl ?_
      refine Y_ist_13_2 rfl rfl ?_
      exact lp_267 hi hI2 nx
    · refine Y_if_ne_t rfl (h0) ?_
      exact lp_267 hi hI1 nx
theorem lp_167 (hi : i < 54) (hn4 : n ≤ 4) (hG : GR (S0 2) T) (hw : lookV (S0 2) T = was) (hA : AN S0 R n S1 R1 n1) (hG1 : GR (S1 2) T1) (hP : PD S1 m) (h3 : S1 0 3 ≠ 0) (h9 : GR (S1 9) Ts) (hk : lookV (S1 9) Ts = kept) (nx : (∀ S R (kept : Int64) (l6 l7 l8 l9 l10 l11 l12 : Option Value), LI S R kept → Y L xs 0 0 62 [some (.ref 1000), some (.ref 0), some (.int 1), some (.long kept), none, some (.int (nI (i + 1))), l6, l7, l8, l9, l10, l11, l12] [] S R PL)) : Y L xs 0 0 167 [some (.ref 1000), some (.ref 0), some (.int 1), some (.long kept), none, some (.int (nI i)), l6, some (.int y), some (.long was), none, some (.int (nI n)), l11, l12] [] S1 R1 PL := by
  have F := lp_217 (l6 := l6) (l12 := l12) (y := y) hi hn4 hG hw hA hG1 hP h3 h9 hk nx
  obtain ⟨hH1, hA2⟩ := hA
  obtain ⟨π1, hπ1⟩ := hG1.2.2.1
  have E : Y L xs 0 0 211 [some (.ref 1000), some (.ref 0), some (.int 1), some (.long kept), none, some (.int (nI i)), l6, some (.int y), some (.long was), none, some (.int (nI n)), some (.int (nI n1)), l12] [] S1 R1 PL := by
    refine Y_iconst rfl ?_
    refine Y_goto rfl ?_
    refine Y_ist_13_2 rfl rfl ?_
    exact F
  refine Y_aload_n rfl rfl ?_
  refine Y_bipush rfl ?_
  refine Y_look (lk_c13 hG1 hπ1 hP.1 hH1.2.1) rfl rfl rfl rfl rfl ?_
  refine Y_ist_13_11 rfl rfl ?_
  refine Y_iload_n rfl rfl ?_
  refine Y_if_eq_f rfl ((by decide)) ?_
  rcases hA2 with ⟨e1, e2⟩ | ⟨e1, hrow⟩
  · subst e1
    refine Y_iload rfl rfl ?_
    refine Y_iload rfl rfl ?_
    refine Y_icmp_ne_f rfl (rfl) ?_
    by_cases h4 : n1 = 4
    · refine Y_iload rfl rfl ?_
      refine Y_iconst rfl ?_
      refine Y_icmp_eq_t rfl (congrArg nI h4) ?_
      exact E
    · have e2 : S1 2 = S0 2 := by
        rcases e2 with e | e
        · exact absurd e h4
        · exact e
      have hG1' : GR (S1 2) T := by rw [e2]; exact hG
      refine Y_iload rfl rfl ?_
      refine Y_iconst rfl ?_
      refine Y_icmp_eq_f rfl ((fun e => h4 ((nI_eq (b := 4) (by omega) (by decide)).mp e))) ?_
      refine Y_aload_n rfl rfl ?_
      refine Y_lookS (lk_look hG1' hπ1 hP.1 hH1.2.1) rfl rfl rfl rfl ?_
      rw [e2, hw]
      refine Y_lload rfl rfl ?_
      refine Y_lcmp rfl ?_
      refine Y_if_eq_t rfl ((by simp [lg_cmp])) ?_
      exact E
  · subst e1
    refine Y_iload rfl rfl ?_
    refine Y_iload rfl rfl ?_
    refine Y_icmp_ne_t rfl ((fun e => by have := (nI_eq (by omega) (by omega)).mp e; omega)) ?_
    refine Y_iload rfl rfl ?_
    refine Y_iload rfl rfl ?_
    refine Y_iconst rfl ?_
    refine Y_iadd rfl ?_
    refine Y_v (nI_1 n) ?_
    refine Y_icmp_ne_f rfl (rfl) ?_
    exact E
theorem lp_body (hL : L < 2 ^ 31) (hi : i < 54) (hI : LI S0 R kept) (nx : (∀ S R (kept : Int64) (l6 l7 l8 l9 l10 l11 l12 : Option Value), LI S R kept → Y L xs 0 0 62 [some (.ref 1000), some (.ref 0), some (.int 1), some (.long kept), none, some (.int (nI (i + 1))), l6, l7, l8, l9, l10, l11, l12] [] S R PL)) : Y L xs 0 0 62 [some (.ref 1000), some (.ref 0), some (.int 1), some (.long kept), none, some (.int (nI i)), l6, l7, l8, l9, l10, l11, l12] [] S0 R PL := by
  obtain ⟨n, T, m, Ts, hH, hG, hP, h3, h9, hk⟩ := hI
  obtain ⟨π, hπ⟩ := hG.2.2.1
  have hn4 := hH.2.2.1
  have A : ∀ x y : Int32, Y L xs 0 0 105 [some (.ref 1000), some (.ref 0), some (.int 1), some (.long kept), none, some (.int (nI i)), some (.int x), some (.int y), l8, l9, l10, l11, l12] [] S0 R PL := fun x y => by
    refine Y_aload_n rfl rfl ?_
    refine Y_lookS (lk_look hG hπ hP.1 hH.2.1) rfl rfl rfl rfl ?_
    refine Y_lst_13_8 rfl rfl ?_
    refine Y_aload_n rfl rfl ?_
    refine Y_bipush rfl ?_
    refine Y_look (lk_c13 hG hπ hP.1 hH.2.1) rfl rfl rfl rfl rfl ?_
    refine Y_ist_13_10 rfl rfl ?_
    refine Y_aload_n rfl rfl ?_
    refine Y_iload rfl rfl ?_
    refine Y_iload rfl rfl ?_
    refine Y_deedS (md_acts hH hG hπ hP x y) rfl rfl rfl rfl (fun w S1 R1 hQ => ?_)
    obtain ⟨rfl, ac⟩ := hQ
    obtain ⟨n1, hA⟩ := AC_AN hH ac
    obtain ⟨a1, a2, a3, ⟨m1, hP1⟩, ⟨T1, hG1⟩, -⟩ := ac
    obtain ⟨π1, hπ1⟩ := hG1.2.2.1
    have hm1 := hA.1.2.1
    have B : Y L xs 0 0 161 [some (.ref 1000), some (.ref 0), some (.int 1), some (.long kept), none, some (.int (nI i)), some (.int x), some (.int y), some (.long (lookV (S0 2) T)), none, some (.int (nI n)), l11, l12] [] S1 R1 PL := by
      refine Y_iconst rfl ?_
      refine Y_goto rfl ?_
      refine Y_ist_13_2 rfl rfl ?_
      exact lp_167 hi hn4 hG rfl hA hG1 hP1 (by rw [a3]; exact h3) (by rw [a2]; exact h9) (by rw [a2]; exact hk) nx
    have C : Y L xs 0 0 144 [some (.ref 1000), some (.ref 0), some (.int 1), some (.long kept), none, some (.int (nI i)), some (.int x), some (.int y), some (.long (lookV (S0 2) T)), none, some (.int (nI n)), l11, l12] [] S1 R1 PL := by
      refine Y_iload rfl rfl ?_
      refine Y_iconst rfl ?_
      refine Y_irem rfl (by decide) ?_
      refine Y_v (nI_rem (a := i) (b := 4) (by omega) (by decide)) ?_
      by_cases h4 : i % 4 = 2
      · refine Y_iconst rfl ?_
        refine Y_icmp_ne_f rfl ((by rw [h4]; rfl)) ?_
        refine Y_aload_n rfl rfl ?_
        refine Y_iload rfl rfl ?_
        refine Y_lookS (lk_would hG1 hπ1 hP1.1 hm1 y) rfl rfl rfl rfl ?_
        refine Y_if_eq_f rfl ((by decide)) ?_
        exact B
      · refine Y_iconst rfl ?_
        refine Y_icmp_ne_t rfl ((fun e => h4 ((nI_eq (b := 2) (by omega) (by decide)).mp e))) ?_
        exact B
    refine Y_if_eq_f rfl ((by decide)) ?_
    refine Y_iload rfl rfl ?_
    refine Y_iconst rfl ?_
    refine Y_irem rfl (by decide) ?_
    refine Y_v (nI_rem (a := i) (b := 5) (by omega) (by decide)) ?_
    by_cases h5 : i % 5 = 0
    · refine Y_if_gt_f rfl ((by rw [h5]; decide)) ?_
      refine Y_aload_n rfl rfl ?_
      refine Y_lookS (lk_holds hG1 hπ1 hP1.1 hm1) rfl rfl rfl rfl ?_
      refine Y_if_eq_f rfl ((by decide)) ?_
      exact C
    · refine Y_if_gt_t rfl (nI_lt (a := 0) (by omega) (by omega)) ?_
      exact C
  refine Y_iload rfl rfl ?_
  refine Y_bipush rfl ?_
  refine Y_icmp_ge_f rfl (nI_ge hi (by decide)) ?_
  refine Y_iload_n rfl rfl ?_
  refine Y_if_eq_f rfl ((by decide)) ?_
  have D : ∀ x : Int32, Y L xs 0 0 93 [some (.ref 1000), some (.ref 0), some (.int 1), some (.long kept), none, some (.int (nI i)), some (.int x), l7, l8, l9, l10, l11, l12] [] S0 R PL := fun x => by
    refine Y_aload_n rfl rfl ?_
    refine Y_iconst rfl ?_
    refine Y_iload rfl rfl ?_
    refine Y_imul rfl ?_
    refine Y_iconst rfl ?_
    refine Y_iadd rfl ?_
    refine Y_v (y := nI (2 * i + 1)) (by rw [show (2 : Int32) * nI i = nI (2 * i) from nI_mulI 2 i]; exact nI_1 _) ?_
    refine Y_lot rfl hL (by omega) rfl rfl (fun y => ?_)
    refine Y_ist_13_7 rfl rfl ?_
    exact A x y
  by_cases h3' : i < 3
  · refine Y_iload rfl rfl ?_
    refine Y_iconst rfl ?_
    refine Y_icmp_ge_f rfl (nI_ge (b := 3) h3' (by decide)) ?_
    refine Y_iconst rfl ?_
    refine Y_goto rfl ?_
    refine Y_ist_13_6 rfl rfl ?_
    exact D 0
  · refine Y_iload rfl rfl ?_
    refine Y_iconst rfl ?_
    refine Y_icmp_ge_t rfl (nI_le (b := i) (a := 3) (by omega) (by omega)) ?_
    refine Y_aload_n rfl rfl ?_
    refine Y_iconst rfl ?_
    refine Y_iload rfl rfl ?_
    refine Y_imul rfl ?_
    refine Y_v (y := nI (2 * i)) (nI_mulI 2 i) ?_
    refine Y_lot rfl hL (by omega) rfl rfl (fun x => ?_)
    refine Y_ist_13_6 rfl rfl ?_
    exact D x
theorem lp_all (hL : L < 2 ^ 31) : ∀ S R kept l6 l7 l8 l9 l10 l11 l12, LI S R kept → Y L xs 0 0 62 [some (.ref 1000), some (.ref 0), some (.int 1), some (.long kept), none, some (.int (nI 0)), l6, l7, l8, l9, l10, l11, l12] [] S R PL := by
  refine down 54 (fun i => ∀ S R kept l6 l7 l8 l9 l10 l11 l12, LI S R kept → Y L xs 0 0 62 [some (.ref 1000), some (.ref 0), some (.int 1), some (.long kept), none, some (.int (nI i)), l6, l7, l8, l9, l10, l11, l12] [] S R PL) (fun S R kept l6 l7 l8 l9 l10 l11 l12 hI => ?_) (fun i hi ih S R kept l6 l7 l8 l9 l10 l11 l12 hI => lp_body hL hi hI ih)
  obtain ⟨n, T, m, Ts, hH, hG, hP, h3, h9, hk⟩ := hI
  obtain ⟨π, hπ⟩ := hG.2.2.1
  refine Y_iload rfl rfl ?_
  refine Y_bipush rfl ?_
  refine Y_icmp_ge_t rfl (Int32.le_refl _) ?_
  refine Y_iload_n rfl rfl ?_
  refine Y_if_eq_f rfl ((by decide)) ?_
  refine Y_aload_n rfl rfl ?_
  refine Y_lookS (lk_holds hG hπ hP.1 hH.2.1) rfl rfl rfl rfl ?_
  refine Y_if_eq_f rfl ((by decide)) ?_
  refine Y_iconst rfl ?_
  refine Y_goto rfl ?_
  exact Y_ret rfl rfl (fun S hS => rfl)
end LOOP
