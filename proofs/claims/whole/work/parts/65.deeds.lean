/-! each deed of both objects, side by side -/
theorem XF_m {S S1 : Nat → Nat → Int32} {R : Nat → Nat} {n : Nat} {row : Nat → Int32} (hR : RO R) (hn4 : n ≤ 4) (h : XF S R n S1 row) {i : Nat} (hi : 23 < i) : S1 i = S i := by
  rw [h.2 i (by simp only [scr, List.mem_cons, List.not_mem_nil, or_false]; omega) (by omega)]
  exact rec_ne S R hR hn4 (by omega)
theorem pt_ix {p : Int32} (h : isPt p = true) : ∃ b, b < 12 ∧ p = nI b := by
  simp only [isPt, Bool.and_eq_true, decide_eq_true_eq] at h
  exact lt_ix 12 (by decide) h.1 h.2
section CD
variable (S : Nat → Nat → Int32) (R : Nat → Nat)
theorem cs_tape (h : CP S R) : CStep kX_tape kM_tape [] S R := by
  have hc := h
  obtain ⟨hR, ⟨T, hC, ⟨π, hπ⟩, h40⟩, ⟨n, n1, n2, n3, n4⟩, -⟩ := h
  by_cases h8 : T < 8
  · have c1 := xm_tape S R hR n1 n2 hC.1 h8
    have x := XF_u (S := S) (R := R) (n := n) (row := upd (S 2) 96 (nI (T + 1)))
    generalize u2 (recS S R n) 2 (upd (S 2) 96 (nI (T + 1))) = S1 at *
    obtain ⟨S2, c2, md⟩ := mm_tape S1 (recR R n) (row := S 2) (T := T) (by rw [XF_m hR n2 x (by decide)]; exact hC) (n := n) (by rw [XF_m hR n2 x (by decide)]; exact n3) n2 h8
    exact ⟨_, S1, _, S2, c1, c2, CP_deed hc n1 n2 x md ⟨π, Pot_u (by decide) hπ⟩ (by rw [cnt_hi (by decide)]; exact h40)⟩
  · exact ⟨_, S, R, S, xm_tape0 S R hC.1 h8, mm_tape0 S R hC h8, hc⟩
theorem cs_drop (h : CP S R) (t : Int32) : CStep kX_drop kM_drop [.int t] S R := by
  have hc := h
  obtain ⟨hR, ⟨T, hC, ⟨π, hπ⟩, h40⟩, ⟨n, n1, n2, n3, n4⟩, -⟩ := h
  cases ht : tIs (S 2) t with
  | false => exact ⟨_, S, R, S, xm_drop0 S R ht, mm_drop0 S R hC ht, hc⟩
  | true =>
    have hT8 := hC.1.2.1
    obtain ⟨a, ha, rfl⟩ := tIs_ix hC.1.1 hT8 ht
    have c1 := xm_drop S R hR n1 n2 (a := a) (by omega) ht
    have x := XF_u (S := S) (R := R) (n := n) (row := tRem (S 2) a)
    generalize u2 (recS S R n) 2 (tRem (S 2) a) = S1 at *
    obtain ⟨S2, c2, md⟩ := mm_drop S1 (recR R n) (row := S 2) (T := T) (by rw [XF_m hR n2 x (by decide)]; exact hC) (n := n) (by rw [XF_m hR n2 x (by decide)]; exact n3) n2 ha
    exact ⟨_, S1, _, S2, c1, c2, CP_deed hc n1 n2 x md (Pot_drop hπ) (by have := n40_tRem (X := S 2) (b := a) (by omega); omega)⟩
theorem cs_shift (h : CP S R) (t x : Int32) : CStep kX_shift kM_shift [.int t, .int x] S R := by
  have hc := h
  obtain ⟨hR, ⟨T, hC, ⟨π, hπ⟩, h40⟩, ⟨n, n1, n2, n3, n4⟩, -⟩ := h
  cases ht : tIs (S 2) t && isNb x with
  | false => exact ⟨_, S, R, S, xm_shift0 S R ht, mm_shift0 S R hC ht, hc⟩
  | true =>
    rw [Bool.and_eq_true] at ht
    have hT8 := hC.1.2.1
    obtain ⟨a, ha, rfl⟩ := tIs_ix hC.1.1 hT8 ht.1
    have c1 := xm_shift S R hR n1 n2 hC.1 ha ht.2
    have xf := XF_u (S := S) (R := R) (n := n) (row := if cnt (stayB (S 2) a x) 12 = 0 then shR (S 2) a x 12 else upd (S 2) 98 (S 2 98 + 1))
    generalize u2 (recS S R n) 2 (if cnt (stayB (S 2) a x) 12 = 0 then shR (S 2) a x 12 else upd (S 2) 98 (S 2 98 + 1)) = S1 at *
    obtain ⟨S2, c2, md⟩ := mm_shift S1 (recR R n) (row := S 2) (T := T) (by rw [XF_m hR n2 xf (by decide)]; exact hC) (n := n) (by rw [XF_m hR n2 xf (by decide)]; exact n3) n2 ha ht.2
    refine ⟨_, S1, _, S2, c1, c2, CP_deed hc n1 n2 xf md ?_ ?_⟩
    · by_cases z : cnt (stayB (S 2) a x) 12 = 0
      · rw [if_pos z]; exact Pot_shift hC.2.1 hπ z
      · rw [if_neg z]; exact ⟨π, Pot_u (by decide) hπ⟩
    · by_cases z : cnt (stayB (S 2) a x) 12 = 0
      · rw [if_pos z]; exact Nat.le_trans n40_sh h40
      · rw [if_neg z, cnt_hi (by decide)]; exact h40
theorem cs_cut (h : CP S R) (t x : Int32) : CStep kX_cut kM_cut [.int t, .int x] S R := by
  have hc := h
  obtain ⟨hR, ⟨T, hC, ⟨π, hπ⟩, h40⟩, ⟨n, n1, n2, n3, n4⟩, -⟩ := h
  cases ht : tIs (S 2) t && isNb x with
  | false => exact ⟨_, S, R, S, xm_cut0 S R ht, mm_cut0 S R hC ht, hc⟩
  | true =>
    rw [Bool.and_eq_true] at ht
    have hT8 := hC.1.2.1
    obtain ⟨a, ha, rfl⟩ := tIs_ix hC.1.1 hT8 ht.1
    by_cases h8 : T < 8
    · by_cases hb : ctB (S 2) a x
      · have c1 := xm_cutR S R hR n1 n2 hC.1 ha h8 ht.2 hb
        have xf := XF_u (S := S) (R := R) (n := n) (row := upd (S 2) 98 (S 2 98 + 1))
        generalize u2 (recS S R n) 2 (upd (S 2) 98 (S 2 98 + 1)) = S1 at *
        obtain ⟨S2, T', c2, md⟩ := mm_cut S1 (recR R n) (row := S 2) (T := T) (by rw [XF_m hR n2 xf (by decide)]; exact hC) (n := n) (by rw [XF_m hR n2 xf (by decide)]; exact n3) n2 ha h8 ht.2
        rw [if_pos hb] at c2 md
        exact ⟨_, S1, _, S2, c1, c2, CP_deed hc n1 n2 xf md ⟨π, Pot_u (by decide) hπ⟩ (by rw [cnt_hi (by decide)]; exact h40)⟩
      · have c1 := xm_cut S R hR n1 n2 hC.1 ha h8 ht.2 hb
        have xf := XF_u (S := S) (R := R) (n := n) (row := mvR (ctR (S 2) T) a T x 12)
        generalize u2 (recS S R n) 2 (mvR (ctR (S 2) T) a T x 12) = S1 at *
        obtain ⟨S2, T', c2, md⟩ := mm_cut S1 (recR R n) (row := S 2) (T := T) (by rw [XF_m hR n2 xf (by decide)]; exact hC) (n := n) (by rw [XF_m hR n2 xf (by decide)]; exact n3) n2 ha h8 ht.2
        rw [if_neg hb] at c2 md
        refine ⟨_, S1, _, S2, c1, c2, CP_deed hc n1 n2 xf md (Pot_cut hC.1 ha h8 hπ) (Nat.le_trans (n40_mv (by omega) (by omega) 12 (Nat.le_refl 12)) ?_)⟩
        unfold ctR
        rw [cnt_hi (by decide), cnt_hi (by decide)]
        exact h40
    · exact ⟨_, S, R, S, xm_cut8 S R hC.1 ha h8 ht.2, mm_cut8 S R hC ha h8 ht.2, hc⟩
theorem cs_glue (h : CP S R) (t o : Int32) : CStep kX_glue kM_glue [.int t, .int o] S R := by
  have hc := h
  obtain ⟨hR, ⟨T, hC, ⟨π, hπ⟩, h40⟩, ⟨n, n1, n2, n3, n4⟩, -⟩ := h
  by_cases ht : tIs (S 2) t = true ∧ tIs (S 2) o = true ∧ t ≠ o
  · have hT8 := hC.1.2.1
    obtain ⟨h1, h2, h3⟩ := ht
    obtain ⟨a, ha, rfl⟩ := tIs_ix hC.1.1 hT8 h1
    obtain ⟨b, hb, rfl⟩ := tIs_ix hC.1.1 hT8 h2
    have hab : a ≠ b := fun e => h3 (by rw [e])
    obtain ⟨S1, c1, xf⟩ := xm_glue S R hR n1 n2 hC.1 hπ ha hb hab
    obtain ⟨S2, T', c2, md⟩ := mm_glue S1 (recR R n) (row := S 2) (T := T) (by rw [XF_m hR n2 xf (by decide)]; exact hC) hπ (n := n) (by rw [XF_m hR n2 xf (by decide)]; exact n3) n2 ha hb hab
    refine ⟨_, S1, _, S2, c1, c2, CP_deed hc n1 n2 xf md (Pot_glR (by omega) (by omega) hπ) ?_⟩
    have hi : cnt (hs (upd (S 2) 98 (S 2 98 + 1))) 96 ≤ 40 := by rw [cnt_hi (by decide)]; exact h40
    unfold glR
    cases cB (S 2) (12 + a) (12 + b) with
    | false => rw [cond_false]; exact hi
    | true =>
      rw [cond_true]
      split
      · exact Nat.le_trans (n40_gl (by omega) hab) h40
      · exact hi
  · exact ⟨_, S, R, S, xm_glue0 S R ht, mm_glue0 S R hC ht, hc⟩
theorem cs_read (h : CP S R) (t p x : Int32) : CStep kX_read kM_read [.int t, .int p, .int x] S R := by
  have hc := h
  obtain ⟨hR, ⟨T, hC, ⟨π, hπ⟩, h40⟩, ⟨n, n1, n2, n3, n4⟩, -⟩ := h
  by_cases ht : rdOK (S 2) t p x = true ∧ tAll (S 2) T < 40
  · have hT8 := hC.1.2.1
    obtain ⟨h1, h4⟩ := ht
    unfold rdOK at h1
    rw [Bool.and_eq_true, Bool.and_eq_true] at h1
    obtain ⟨g1, g2, g3⟩ := h1
    obtain ⟨a, ha, rfl⟩ := tIs_ix hC.1.1 hT8 g1
    obtain ⟨b, hb, rfl⟩ := pt_ix g2
    obtain ⟨S1, r, row, c1, xf, en⟩ := xm_read S R hR n1 n2 hC.1 ⟨π, hπ⟩ ha hb g3 h4
    obtain ⟨S2, c2, md⟩ := mm_read S1 (recR R n) (row := S 2) (T := T) (by rw [XF_m hR n2 xf (by decide)]; exact hC) h40 hπ (n := n) (by rw [XF_m hR n2 xf (by decide)]; exact n3) n2 ha hb g3 h4
    obtain ⟨e1, e2⟩ := EN_det hπ en
    rw [← e1] at c2
    rw [← e2] at md
    exact ⟨_, S1, _, S2, c1, c2, CP_deed hc n1 n2 xf md (EN_good en hC.1 ha hb ⟨π, hπ⟩).2 (EN_40 en (by have := tAll_cnt hC.1; omega))⟩
  · exact ⟨_, S, R, S, xm_read0 S R hC.1 ht, mm_read0 S R hC h40 ht, hc⟩
theorem cs_lose (h : CP S R) (t p : Int32) : CStep kX_lose kM_lose [.int t, .int p] S R := by
  have hc := h
  obtain ⟨hR, ⟨T, hC, ⟨π, hπ⟩, h40⟩, ⟨n, n1, n2, n3, n4⟩, -⟩ := h
  cases ht : tIs (S 2) t && isPt p with
  | false => exact ⟨_, S, R, S, xm_lose0 S R ht, mm_lose0 S R hC ht, hc⟩
  | true =>
    rw [Bool.and_eq_true] at ht
    have hT8 := hC.1.2.1
    obtain ⟨a, ha, rfl⟩ := tIs_ix hC.1.1 hT8 ht.1
    obtain ⟨b, hb, rfl⟩ := pt_ix ht.2
    have c1 := xm_lose S R hR n1 n2 hC.1 ha hb
    have xf := XF_u (S := S) (R := R) (n := n) (row := if hs (S 2) (a * 12 + b) = true then upd (S 2) (a * 12 + b) NONE else upd (S 2) 98 (S 2 98 + 1))
    generalize u2 (recS S R n) 2 (if hs (S 2) (a * 12 + b) = true then upd (S 2) (a * 12 + b) NONE else upd (S 2) 98 (S 2 98 + 1)) = S1 at *
    obtain ⟨S2, c2, md⟩ := mm_lose S1 (recR R n) (row := S 2) (T := T) (by rw [XF_m hR n2 xf (by decide)]; exact hC) (n := n) (by rw [XF_m hR n2 xf (by decide)]; exact n3) n2 ha hb
    refine ⟨_, S1, _, S2, c1, c2, CP_deed hc n1 n2 xf md ?_ ?_⟩
    · split
      · exact ⟨π, Pot_lose hπ⟩
      · exact ⟨π, Pot_u (by decide) hπ⟩
    · split
      · exact Nat.le_trans n40_lose h40
      · rw [cnt_hi (by decide)]; exact h40
theorem cs_restore (h : CP S R) : CStep kX_restore kM_restore [] S R := by
  have hc := h
  obtain ⟨hR, ⟨T, hC, ⟨π, hπ⟩, h40⟩, ⟨n, n1, n2, n3, n4⟩, ⟨sv, s1, s2, s3⟩, -⟩ := h
  cases sv with
  | false => exact ⟨_, S, R, S, xm_restore0 S R s1, mm_restore0 S R s2, hc⟩
  | true =>
    obtain ⟨T', hT'⟩ := s3 rfl
    have c1 := xm_restore S R hR n1 n2 (by rw [s1]; decide) hT'.1.1
    have xf := XF_u (S := S) (R := R) (n := n) (row := cpy (S 9) (S 2) 101)
    generalize u2 (recS S R n) 2 (cpy (S 9) (S 2) 101) = S1 at *
    have e27 : S1 27 = S 27 := XF_m hR n2 xf (by decide)
    obtain ⟨S0, c2, mr⟩ := mm_restore S1 (recR R n) (by rw [XF_m hR n2 xf (by decide), s2]; decide) (n := n) (by rw [XF_m hR n2 xf (by decide)]; exact n3) n2
    obtain ⟨gC, gπ, g40⟩ : GRow (cpy (S 9) (S 2) 101) T' (cpA (S 27) 0 (S1 25) 0 102) := GRow_cg (fun j hj => if_pos hj) (fun j hj => by unfold cpA; rw [if_pos ⟨Nat.zero_le _, by omega⟩, Nat.sub_zero, Nat.zero_add]) hT'
    rw [e27] at c2
    have er : S 27 1 = nI (tAll (cpy (S 9) (S 2) 101) T') := by
      have h9 := gC.2.2.2.1
      rw [tAll_cnt gC.1, ← h9]
      unfold cpA
      rw [if_pos ⟨by decide, by decide⟩]
    rw [er] at c2
    exact ⟨_, S1, _, _, c1, c2, CP_deed hc n1 n2 xf ⟨S0, mr, fun i h1 _ _ => u2_ne h1, by rw [u2_same]; exact gC⟩ gπ g40⟩
theorem cs_append (h : CP S R) (c : Int32) : CStep kX_append kM_append [.int c] S R := by
  have hc := h
  obtain ⟨hR, hT, ⟨n, n1, n2, n3, n4⟩, ⟨sv, s1, s2, s3⟩, ⟨m, p1, p2, p3, p4⟩, sp, t1, t2, t3⟩ := h
  have c1 := xm_append S R p1 p3 c
  unfold s_append at c1
  by_cases z : c < 33 ∨ ¬ c ≤ 126
  · rw [if_pos z] at c1
    have c2 := mm_append S R p2 p3 c
    unfold ms_append at c2
    rw [if_pos z] at c2
    exact ⟨_, S, R, S, c1, c2, hc⟩
  · rw [if_neg z] at c1
    by_cases z2 : m < 60
    · rw [if_pos z2] at c1
      have e24 : xApp S 10 11 m [c] 24 = S 24 := by unfold xApp; rw [u2_ne (by decide), u2_ne (by decide)]
      have c2 := mm_append (xApp S 10 11 m [c]) R (n := m) (by rw [e24]; exact p2) p3 c
      unfold ms_append at c2
      rw [if_neg z, if_pos z2] at c2
      refine ⟨_, _, R, _, c1, c2, hR, ?_, ⟨n, ?_, n2, ?_, fun k hk => ?_⟩, ⟨sv, ?_, ?_, fun q => ?_⟩, ⟨m + 1, ?_, ?_, by omega, ?_⟩, sp, ?_, ?_, fun q j hj => ?_⟩
      · exact hT
      · exact n1
      · rw [u2_same, upd_ne (by decide), e24]; exact n3
      · have hk' := hR.1 k (by omega)
        obtain ⟨T, hT'⟩ := n4 k hk
        refine ⟨T, GRow_cg (fun j hj => ?_) (fun j hj => rfl) hT'⟩
        unfold xApp
        rw [u2_ne (by omega), u2_ne (by omega), u2_ne (by omega), u2_ne (by omega)]
      · exact s1
      · rw [u2_same, upd_ne (by decide), e24]; exact s2
      · exact s3 q
      · rw [u2_ne (by decide), u2_ne (by decide)]
        exact xApp_q (by decide)
      · rw [u2_same, upd_same]
      · rw [u2_ne (by decide), u2_ne (by decide), u2_ne (by decide), u2_same]
        unfold xApp
        rw [u2_ne (by decide), u2_same, u2_ne (by decide), u2_ne (by decide), ← p4]
        rfl
      · exact t1
      · rw [u2_same, upd_ne (by decide), e24]; exact t2
      · exact t3 q j hj
    · rw [if_neg z2] at c1
      have c2 := mm_append S R p2 p3 c
      unfold ms_append at c2
      rw [if_neg z, if_neg z2] at c2
      exact ⟨_, S, R, S, c1, c2, hc⟩
theorem cs_clear (h : CP S R) : CStep kX_clear kM_clear [] S R := by
  obtain ⟨hR, hT, ⟨n, n1, n2, n3, n4⟩, ⟨sv, s1, s2, s3⟩, ⟨m, p1, p2, p3, p4⟩, sp, t1, t2, t3⟩ := h
  have c1 := xm_clear S R
  have c2 := mm_clear (u2 S 10 (upd (S 10) 1 0)) R
  rw [u2_ne (show 24 ≠ 10 by decide), p2] at c2
  rw [p1] at c1
  refine ⟨_, _, R, _, c1, c2, hR, hT, ⟨n, n1, n2, ?_, fun k hk => ?_⟩, ⟨sv, s1, ?_, s3⟩, ⟨0, ?_, ?_, by decide, p4⟩, sp, t1, ?_, t3⟩
  · rw [u2_same, upd_ne (by decide)]; exact n3
  · have hk' := hR.1 k (by omega)
    obtain ⟨T, hT'⟩ := n4 k hk
    exact ⟨T, GRow_cg (fun j hj => by rw [u2_ne (by omega), u2_ne (by omega)]) (fun j hj => rfl) hT'⟩
  · rw [u2_same, upd_ne (by decide)]; exact s2
  · rw [u2_ne (by decide), u2_same, upd_same]; rfl
  · rw [u2_same, upd_same]; rfl
  · rw [u2_same, upd_ne (by decide)]; exact t2
theorem cs_undo (h : CP S R) : CStep kX_undo kM_undo [] S R := by
  have hc := h
  obtain ⟨hR, hT, ⟨n, n1, n2, n3, n4⟩, ⟨sv, s1, s2, s3⟩, ⟨m, p1, p2, p3, p4⟩, sp, t1, t2, t3⟩ := h
  cases n with
  | zero => exact ⟨_, S, R, S, xm_undo0 S R n1, mm_undo0 S R n3, hc⟩
  | succ n =>
    have c1 := xm_undo S R hR n1 (by omega)
    have hRn := hR.1 n (by omega)
    obtain ⟨S1, hS1⟩ : ∃ S1, S1 = u2 (u2 S 3 (upd (S 3) 1 (nI n))) 2 (cpy (S (R n)) (S 2) 101) := ⟨_, rfl⟩
    rw [← hS1] at c1
    have e : ∀ i, i ≠ 2 → i ≠ 3 → S1 i = S i := fun i h2 h3 => by rw [hS1, u2_ne h2, u2_ne h3]
    have c2 := mm_undo S1 R (n := n) (by rw [e 24 (by decide) (by decide)]; exact n3) (by omega)
    obtain ⟨T, hT'⟩ := n4 n (Nat.lt_succ_self n)
    refine ⟨_, S1, R, _, c1, c2, hR, ⟨T, ?_⟩, ⟨n, ?_, by omega, ?_, fun k hk => ?_⟩, ⟨sv, ?_, ?_, fun q => ?_⟩, ⟨m, ?_, ?_, p3, ?_⟩, sp, ?_, ?_, fun q j hj => ?_⟩
    · rw [u2_ne (by decide), u2_ne (by decide), u2_same]
      refine GRow_cg (fun j hj => ?_) (fun j hj => ?_) hT'
      · rw [hS1, u2_same]; exact if_pos hj
      · rw [e 26 (by decide) (by decide)]; unfold cpA; rw [if_pos ⟨Nat.zero_le _, by omega⟩, Nat.sub_zero]
    · rw [u2_ne (by decide), u2_ne (by decide), hS1, u2_ne (by decide), u2_same, upd_same]
    · rw [u2_ne (by decide), u2_same, upd_same]
    · have hk' := hR.1 k (by omega)
      obtain ⟨T2, hT2⟩ := n4 k (by omega)
      refine ⟨T2, GRow_cg (fun j hj => ?_) (fun j hj => ?_) hT2⟩
      · rw [u2_ne (by omega), u2_ne (by omega), e _ (by omega) (by omega)]
      · rw [u2_ne (by decide), u2_ne (by decide), e 26 (by decide) (by decide)]
    · rw [u2_ne (by decide), u2_ne (by decide), e 0 (by decide) (by decide)]; exact s1
    · rw [u2_ne (by decide), u2_same, upd_ne (by decide), e 24 (by decide) (by decide)]; exact s2
    · rw [u2_ne (by decide), u2_ne (by decide), u2_ne (by decide), u2_ne (by decide), e 9 (by decide) (by decide), e 27 (by decide) (by decide)]; exact s3 q
    · rw [u2_ne (by decide), u2_ne (by decide), e 10 (by decide) (by decide)]; exact p1
    · rw [u2_ne (by decide), u2_same, upd_ne (by decide), e 24 (by decide) (by decide)]; exact p2
    · rw [u2_ne (by decide), u2_ne (by decide), u2_ne (by decide), u2_ne (by decide), e 11 (by decide) (by decide), e 28 (by decide) (by decide)]; exact p4
    · rw [u2_ne (by decide), u2_ne (by decide), e 0 (by decide) (by decide)]; exact t1
    · rw [u2_ne (by decide), u2_same, upd_ne (by decide), e 24 (by decide) (by decide)]; exact t2
    · rw [u2_ne (by decide), u2_ne (by decide), u2_ne (by decide), u2_ne (by decide), e 12 (by decide) (by decide), e 31 (by decide) (by decide)]; exact t3 q j hj
theorem cs_save (h : CP S R) : CStep kX_save kM_save [] S R := by
  obtain ⟨hR, ⟨T, hT⟩, ⟨n, n1, n2, n3, n4⟩, ⟨sv, s1, s2, s3⟩, ⟨m, p1, p2, p3, p4⟩, sp, t1, t2, t3⟩ := h
  have c1 := xm_save S R hT.1.1
  obtain ⟨S1, hS1⟩ : ∃ S1, S1 = u2 (u2 S 9 (cpy (S 2) (S 9) 101)) 0 (upd (S 0) 3 1) := ⟨_, rfl⟩
  rw [← hS1] at c1
  have e : ∀ i, i ≠ 0 → i ≠ 9 → S1 i = S i := fun i h2 h3 => by rw [hS1, u2_ne h2, u2_ne h3]
  have c2 := mm_save S1 R
  have er : S1 25 1 = nI (tAll (S 2) T) := by rw [e 25 (by decide) (by decide), hT.1.2.2.2.1, tAll_cnt hT.1.1]
  rw [er] at c2
  refine ⟨_, S1, R, _, c1, c2, hR, ⟨T, ?_⟩, ⟨n, ?_, n2, ?_, fun k hk => ?_⟩, ⟨true, ?_, ?_, fun q => ⟨T, ?_⟩⟩, ⟨m, ?_, ?_, p3, ?_⟩, sp, ?_, ?_, fun q j hj => ?_⟩
  · rw [u2_ne (by decide), u2_ne (by decide), u2_ne (by decide), u2_ne (by decide), e 2 (by decide) (by decide), e 25 (by decide) (by decide)]; exact hT
  · rw [u2_ne (by decide), u2_ne (by decide), e 3 (by decide) (by decide)]; exact n1
  · rw [u2_same, upd_ne (by decide), e 24 (by decide) (by decide)]; exact n3
  · have hk' := hR.1 k (by omega)
    obtain ⟨T2, hT2⟩ := n4 k hk
    refine ⟨T2, GRow_cg (fun j hj => ?_) (fun j hj => ?_) hT2⟩
    · rw [u2_ne (by omega), u2_ne (by omega), e _ (by omega) (by omega)]
    · rw [u2_ne (by decide), u2_ne (by decide), e 26 (by decide) (by decide)]
  · rw [u2_ne (by decide), u2_ne (by decide), hS1, u2_same, upd_same]; rfl
  · rw [u2_same, upd_same]; rfl
  · rw [u2_ne (by decide), u2_ne (by decide), u2_ne (by decide), u2_same]
    refine GRow_cg (fun j hj => ?_) (fun j hj => ?_) hT
    · rw [hS1, u2_ne (by decide), u2_same]; exact if_pos hj
    · rw [e 25 (by decide) (by decide)]; unfold cpA; rw [if_pos ⟨Nat.zero_le _, by omega⟩, Nat.sub_zero, Nat.zero_add]
  · rw [u2_ne (by decide), u2_ne (by decide), e 10 (by decide) (by decide)]; exact p1
  · rw [u2_same, upd_ne (by decide), e 24 (by decide) (by decide)]; exact p2
  · rw [u2_ne (by decide), u2_ne (by decide), u2_ne (by decide), u2_ne (by decide), e 11 (by decide) (by decide), e 28 (by decide) (by decide)]; exact p4
  · rw [u2_ne (by decide), u2_ne (by decide), hS1, u2_same, upd_ne (by decide)]; exact t1
  · rw [u2_same, upd_ne (by decide), e 24 (by decide) (by decide)]; exact t2
  · rw [u2_ne (by decide), u2_ne (by decide), u2_ne (by decide), u2_ne (by decide), e 12 (by decide) (by decide), e 31 (by decide) (by decide)]; exact t3 q j hj
end CD
