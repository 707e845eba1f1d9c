/-! each look of both objects, side by side -/
def CStep (kx km : Nat) (args : List Value) (S : Nat → Nat → Int32) (R : Nat → Nat) : Prop := ∃ (r : Int32) (S1 : Nat → Nat → Int32) (R1 : Nat → Nat) (S2 : Nat → Nat → Int32), EvM kx (.ref 0 :: args) (mk S R) (some (.int r)) (mk S1 R1) ∧ EvM km (.ref 24 :: args) (mk S1 R1) (some (.int r)) (mk S2 R1) ∧ CP S2 R1
section CL
variable (S : Nat → Nat → Int32) (R : Nat → Nat)
theorem cs_diff (h : CP S R) (x y w : Int32) : CStep kX_difference kM_difference [.int x, .int y, .int w] S R := by
  have hc := h
  obtain ⟨hR, ⟨T, hC, ⟨π, hπ⟩, h40⟩, -⟩ := h
  obtain ⟨S1, c1, L⟩ := xl_diff S R hC.1 hπ x y w
  have hC1 : CR (S 2) T (S1 25) := by rw [L 25 (by decide)]; exact hC
  obtain ⟨S2, c2, F⟩ := ml_diff S1 R hC1.cs hπ x y w
  exact ⟨_, S1, R, S2, c1, c2, CP_look hc ((SIm_L L).tr (SIm_s F))⟩
theorem cs_follows (h : CP S R) (t p : Int32) : CStep kX_follows kM_follows [.int t, .int p] S R := by
  have hc := h
  obtain ⟨hR, ⟨T, hC, ⟨π, hπ⟩, h40⟩, -⟩ := h
  obtain ⟨S1, c1, L⟩ := xl_follows S R hC.1 hπ t p
  have hC1 : CR (S 2) T (S1 25) := by rw [L 25 (by decide)]; exact hC
  obtain ⟨S2, c2, F⟩ := ml_follows S1 R hC1.cs hπ t p
  exact ⟨_, S1, R, S2, c1, c2, CP_look hc ((SIm_L L).tr (SIm_s F))⟩
theorem cs_zeros (h : CP S R) (t o : Int32) : CStep kX_zeros kM_zeros [.int t, .int o] S R := by
  have hc := h
  obtain ⟨hR, ⟨T, hC, ⟨π, hπ⟩, h40⟩, -⟩ := h
  obtain ⟨S1, c1, L⟩ := xl_zeros S R hC.1 hπ t o
  have hC1 : CR (S 2) T (S1 25) := by rw [L 25 (by decide)]; exact hC
  obtain ⟨S2, c2, F⟩ := ml_zeros S1 R hC1.cs hπ t o
  exact ⟨_, S1, R, S2, c1, c2, CP_look hc ((SIm_L L).tr (SIm_s F))⟩
theorem cs_whyNot (h : CP S R) (t p x : Int32) : CStep kX_whyNot kM_whyNot [.int t, .int p, .int x] S R := by
  have hc := h
  obtain ⟨hR, ⟨T, hC, ⟨π, hπ⟩, h40⟩, -⟩ := h
  obtain ⟨S1, c1, L⟩ := xl_whyNot S R hC.1 hπ t p x
  have hC1 : CR (S 2) T (S1 25) := by rw [L 25 (by decide)]; exact hC
  obtain ⟨S2, c2, F⟩ := ml_whyNot S1 R hC1.cs hπ t p x
  exact ⟨_, S1, R, S2, c1, c2, CP_look hc ((SIm_L L).tr (SIm_s F))⟩
theorem cs_holding (h : CP S R) (w : Int32) : CStep kX_holding kM_holding [.int w] S R := by
  have hc := h
  obtain ⟨hR, ⟨T, hC, ⟨π, hπ⟩, h40⟩, -⟩ := h
  obtain ⟨S1, c1, L⟩ := xl_holding S R hC.1 w
  have hC1 : CR (S 2) T (S1 25) := by rw [L 25 (by decide)]; exact hC
  obtain ⟨S2, c2, F⟩ := ml_holding S1 R hC1.cs w
  exact ⟨_, S1, R, S2, c1, c2, CP_look hc ((SIm_L L).tr (SIm_s F))⟩
theorem cs_point (h : CP S R) (p w : Int32) : CStep kX_point kM_point [.int p, .int w] S R := by
  have hc := h
  obtain ⟨hR, ⟨T, hC, ⟨π, hπ⟩, h40⟩, -⟩ := h
  obtain ⟨S1, c1, L⟩ := xl_point S R hC.1 hπ p w
  have hC1 : CR (S 2) T (S1 25) := by rw [L 25 (by decide)]; exact hC
  obtain ⟨S2, c2, F⟩ := ml_point S1 R hC1.cs hπ p w
  exact ⟨_, S1, R, S2, c1, c2, CP_look hc ((SIm_L L).tr (SIm_s F))⟩
theorem cs_tapeOf (h : CP S R) (t w : Int32) : CStep kX_tapeOf kM_tapeOf [.int t, .int w] S R := by
  have hc := h
  obtain ⟨hR, ⟨T, hC, ⟨π, hπ⟩, h40⟩, -⟩ := h
  obtain ⟨S1, c1, L⟩ := xl_tapeOf S R hC.1 t w
  have hC1 : CR (S 2) T (S1 25) := by rw [L 25 (by decide)]; exact hC
  obtain ⟨S2, c2, F⟩ := ml_tapeOf S1 R hC1 t w
  exact ⟨_, S1, R, S2, c1, c2, CP_look hc ((SIm_L L).tr (SIm_s F))⟩
theorem cs_ifRead (h : CP S R) (t p : Int32) : CStep kX_ifRead kM_ifRead [.int t, .int p] S R := by
  have hc := h
  obtain ⟨hR, ⟨T, hC, ⟨π, hπ⟩, h40⟩, -⟩ := h
  obtain ⟨S1, c1, L⟩ := xl_ifRead S R hC.1 t p
  have hC1 : CR (S 2) T (S1 25) := by rw [L 25 (by decide)]; exact hC
  obtain ⟨S2, c2, F⟩ := ml_ifRead S1 R hC1.cs t p
  exact ⟨_, S1, R, S2, c1, c2, CP_look hc ((SIm_L L).tr (SIm_s F))⟩
theorem cs_best (h : CP S R) : CStep kX_bestReading kM_bestReading [] S R := by
  have hc := h
  obtain ⟨hR, ⟨T, hC, ⟨π, hπ⟩, h40⟩, -⟩ := h
  obtain ⟨S1, c1, L⟩ := xl_best S R hC.1 
  have hC1 : CR (S 2) T (S1 25) := by rw [L 25 (by decide)]; exact hC
  obtain ⟨S2, c2, F⟩ := ml_best S1 R hC1.cs 
  exact ⟨_, S1, R, S2, c1, c2, CP_look hc ((SIm_L L).tr (SIm_s F))⟩
theorem cs_sign (h : CP S R) (t q : Int32) : CStep kX_sign kM_sign [.int t, .int q] S R := by
  have hc := h
  obtain ⟨hR, ⟨T, hC, ⟨π, hπ⟩, h40⟩, -⟩ := h
  obtain ⟨S1, c1, L⟩ := xl_sign S R hC.1 t q
  have hC1 : CR (S 2) T (S1 25) := by rw [L 25 (by decide)]; exact hC
  obtain ⟨S2, c2, F⟩ := ml_sign S1 R hC1.cs t q
  exact ⟨_, S1, R, S2, c1, c2, CP_look hc ((SIm_L L).tr (SIm_m F))⟩
theorem cs_reading (h : CP S R) (t p : Int32) : CStep kX_reading kM_reading [.int t, .int p] S R := by
  have hc := h
  obtain ⟨hR, ⟨T, hC, ⟨π, hπ⟩, h40⟩, -⟩ := h
  exact ⟨_, S, R, S, xl_reading S R t p, ml_reading S R hC.cs t p, hc⟩
theorem cs_count (h : CP S R) (w : Int32) : CStep kX_count kM_count [.int w] S R := by
  have hc := h
  obtain ⟨hR, ⟨T, hC, ⟨π, hπ⟩, h40⟩, ⟨n, n1, n2, n3, n4⟩, hs', ⟨m, p1, p2, p3, p4⟩, ht⟩ := h
  obtain ⟨S1, c1, L⟩ := xl_count S R hC.1 hπ p1 n1 w
  have hC1 : CR (S 2) T (S1 25) := by rw [L 25 (by decide)]; exact hC
  obtain ⟨S2, c2, F⟩ := ml_count S1 R hC1 hπ (n := m) (m := n) (by rw [L 24 (by decide)]; exact p2) (by rw [L 24 (by decide)]; exact n3) w
  exact ⟨_, S1, R, S2, c1, c2, CP_look hc ((SIm_L L).tr (SIm_s F))⟩
theorem cs_known (h : CP S R) : ∃ (r : UInt64) (S1 S2 : Nat → Nat → Int32), vf_n64 r ∧ EvM kX_known [.ref 0] (mk S R) (some (.double r)) (mk S1 R) ∧ EvM kM_known [.ref 24] (mk S1 R) (some (.double r)) (mk S2 R) ∧ CP S2 R := by
  have hc := h
  obtain ⟨hR, ⟨T, hC, ⟨π, hπ⟩, h40⟩, -⟩ := h
  obtain ⟨S1, c1, L⟩ := xl_known S R hC.1
  have hC1 : CR (S 2) T (S1 25) := by rw [L 25 (by decide)]; exact hC
  obtain ⟨S2, c2, F⟩ := ml_known S1 R hC1.cs
  refine ⟨_, S1, S2, ?_, c1, c2, CP_look hc ((SIm_L L).tr (SIm_s F))⟩
  have := kE_le (S 2) 12
  exact ddiv_ok _ (by omega)
theorem cs_fault (h : CP S R) : CStep kX_fault kM_fault [] S R := by
  have hc := h
  obtain ⟨hR, hT, hn, hs', ⟨m, p1, p2, p3, p4⟩, ht⟩ := h
  obtain ⟨S2, c2, F⟩ := mm_fault S R p2 p3
  have c1 := xm_fault S R p1 p3
  rw [← p4] at c2
  exact ⟨_, S, R, S2, c1, c2, CP_look hc (SIm_P F)⟩
theorem cs_why (h : CP S R) (w : Int32) : CStep kX_why kM_why [.int w] S R := by
  have hc := h
  obtain ⟨hR, hT, hn, hs', hp, sp, t1, t2, t3⟩ := h
  have c1 := xm_why S R w
  have c2 := mm_why S R w
  have e : a_why S w = (if w < 0 ∨ ¬ w < 3 then -1 else if S 24 14 = 0 then -4 else S 31 w.toNatClampNeg) := by
    unfold a_why
    by_cases z : w < 0 ∨ ¬ w < 3
    · rw [if_pos z, if_pos z]
    · rw [if_neg z, if_neg z, t1, t2]
      cases sp with
      | false => rw [b2i_f, if_pos rfl, if_pos rfl]
      | true =>
        rw [if_neg (by decide), if_neg (by decide)]
        have z1 : ¬ w < 0 := fun q => z (Or.inl q)
        have z2 : w < 3 := Decidable.byContradiction fun q => z (Or.inr q)
        obtain ⟨j, hj, rfl⟩ := lt_ix 3 (by decide) z1 (Int32.not_le.mpr z2)
        rw [nI_clamp (by omega)]
        exact t3 rfl j hj
  rw [e] at c1
  exact ⟨_, S, R, S, c1, c2, hc⟩
end CL
