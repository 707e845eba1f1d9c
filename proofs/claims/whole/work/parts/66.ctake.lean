/-! take, side by side -/
theorem cs_take (S : Nat → Nat → Int32) (R : Nat → Nat) (h : CP S R) : CStep kX_take kM_take [] S R := by
  have hc := h
  obtain ⟨hR, ⟨T, hT⟩, ⟨n, hh⟩, ⟨sv, s1, s2, s3⟩, ⟨m, p1, p2, p3, p4⟩, sp, t1, t2, t3⟩ := h
  have hT0 := hT
  obtain ⟨hC, hπ, h40⟩ := hT
  obtain ⟨n1, n2, n3, n4⟩ := hh
  by_cases hg : gF (S 11) m m 0 0 = -4
  · obtain ⟨S1, tk, st, row', c1, hK, f2, fo, f10, fn, fs⟩ := xm_take S R hR n1 n2 p1 p3 hg hC.1 hπ
    have hR' := RO_rec hR n
    obtain ⟨B, hB⟩ : ∃ B, B = u2 (recS S R n) 0 (upd (S 0) 6 0) := ⟨_, rfl⟩
    rw [← hB] at fo f10 fn fs
    have eB : ∀ i, i ≠ 0 → (i < 3 ∨ i = 4 ∨ 8 < i) → B i = S i := fun i i0 hi => by rw [hB, u2_ne i0]; exact rec_ne S R hR n2 hi
    have e0 : B 0 = upd (S 0) 6 0 := by rw [hB, u2_same]
    have em : ∀ i, 23 < i → S1 i = S i := fun i hi => by
      rw [fo i (by simp only [scr, List.mem_cons, List.not_mem_nil, or_false]; omega) (by omega) (by omega) (by omega) (by omega)]
      exact eB i (by omega) (by omega)
    have e28 : S1 28 = S 11 := (em 28 (by decide)).trans p4.symm
    have e24 : S1 24 = S 24 := em 24 (by decide)
    obtain ⟨S2, c2, lo, C2, hm, g27, g28, g4, g6, gn, gs⟩ := mm_take S1 (recR R n) (row := S 2) (T := T) (m := m) (n := n) (by rw [e24]; exact p2) p3 (by rw [e24]; exact n3) n2 (by rw [e28]; exact hg) (by rw [em 25 (by decide)]; exact hC) hπ h40 (by rw [e28]; exact hK)
    obtain ⟨-, hπ', h40'⟩ := TK_good _ _ _ hK hC.1 hπ h40
    have hHM : HM S S2 n := ⟨hm.1, fun j hj => by rw [hm.2.1 j hj, em 25 (by decide)], fun k hk j hj => by rw [hm.2.2 k hk j hj, em 26 (by decide)]⟩
    have s03 : S2 0 3 = S 0 3 := by
      rw [lo 0 (by decide)]
      cases st with
      | none => rw [(fn rfl).1, e0, upd_ne (by decide)]
      | some r => rw [(fs r rfl).1, upd_ne (by decide), e0, upd_ne (by decide)]
    refine ⟨_, S1, _, S2, c1, c2, hR', ⟨T, ?_⟩, ⟨_, CP_hist hR hT0 ⟨n1, n2, n3, n4⟩ ?_ (fun k hk => ?_) hHM⟩, ⟨sv, ?_, ?_, fun z => ?_⟩, ⟨0, ?_, ?_, by decide, ?_⟩, ?_⟩
    · rw [lo 2 (by decide), f2]
      exact ⟨C2, hπ', h40'⟩
    · rw [lo 3 (by decide), fo 3 (by decide) (by decide) (by decide) (by decide) (by decide), hB, u2_ne (by decide)]
    · obtain ⟨q1, q2, q3, q4⟩ := scr_R hR' hk
      have := hR'.1 k hk
      rw [lo _ (by omega), fo _ q1 (by omega) (by omega) (by omega) (by omega), hB, u2_ne (by omega)]
    · rw [s03]; exact s1
    · rw [g4, e24]; exact s2
    · rw [lo 9 (by decide), fo 9 (by decide) (by decide) (by decide) (by decide) (by decide), eB 9 (by decide) (by decide), g27, em 27 (by decide)]
      exact s3 z
    · rw [lo 10 (by decide), f10, upd_same]; rfl
    · rw [g6]; rfl
    · rw [lo 11 (by decide), fo 11 (by decide) (by decide) (by decide) (by decide) (by decide), eB 11 (by decide) (by decide), g28, e28]
    · cases st with
      | none =>
        refine ⟨false, ?_, ?_, fun z => by cases z⟩
        · rw [lo 0 (by decide), (fn rfl).1, e0, upd_same]; rfl
        · rw [gn rfl]; rfl
      | some r =>
        obtain ⟨x1, x2⟩ := fs r rfl
        obtain ⟨y1, y2, y3, y4⟩ := gs r rfl
        refine ⟨true, ?_, ?_, fun _ j hj => ?_⟩
        · rw [lo 0 (by decide), x1, upd_same]; rfl
        · rw [y1]; rfl
        · rw [lo 12 (by decide), x2]
          rcases (show j = 0 ∨ j = 1 ∨ j = 2 by omega) with rfl | rfl | rfl
          · rw [upd_ne (by decide), upd_ne (by decide), upd_same, y2]
          · rw [upd_ne (by decide), upd_same, y3]
          · rw [upd_same, y4, e28]
  · have c1 := xm_take0 S R p1 p3 hg
    obtain ⟨S2, c2, F⟩ := mm_take0 S R p2 p3 (by rw [← p4]; exact hg)
    exact ⟨_, S, R, S2, c1, c2, CP_look hc (SIm_P F)⟩
