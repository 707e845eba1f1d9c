/-! the law from its entry -/
section WALK
variable {L : Nat} {xs : Nat → Int32}
theorem tI_no {j : Nat} (hj : j < 96) : tI j = NONE := if_pos hj
theorem tI_hs {j : Nat} (hj : j < 96) : hs tI j = false := by unfold hs; rw [tI_no hj]; rfl
theorem GR_0 : GR tI 0 := ⟨⟨rfl, by decide, fun j _ hj => tI_no hj⟩, fun j hj hh => (by rw [tI_hs hj] at hh; cases hh), ⟨fun _ => 0, fun j hj hh => by rw [tI_hs hj] at hh; cases hh⟩, by rw [cnt_none (fun j hj => tI_hs hj)]; decide⟩
theorem RO_0 : RO R0 := ⟨fun j hj => ⟨Nat.le_add_right _ _, by unfold R0; omega⟩, fun i j _ _ e => by unfold R0 at e; omega⟩
theorem lw_8 (hL : L < 2 ^ 31) {S0 : Sf} (hz : ∀ i, i ≠ 2 → i ≠ 21 → S0 i = fun _ => 0) (h2 : S0 2 = tI) : Y L xs 0 0 8 [some (.ref 1000), some (.ref 0), none, none, none, none, none, none, none, none, none, none, none] [] S0 R0 PL := by
  have z : ∀ i j, i ≠ 2 → i ≠ 21 → S0 i j = 0 := fun i j h1 h3 => by rw [hz i h1 h3]
  have hG : GR (S0 2) 0 := by rw [h2]; exact GR_0
  obtain ⟨π, hπ⟩ := hG.2.2.1
  have hH : HI S0 R0 0 := ⟨RO_0, z 3 1 (by decide) (by decide), by decide, fun k hk => absurd hk (Nat.not_lt_zero k)⟩
  have hP : PD S0 0 := ⟨z 10 1 (by decide) (by decide), by decide⟩
  refine Y_aload_n rfl rfl ?_
  refine Y_lookS (lk_holds hG hπ hP.1 hH.2.1) rfl rfl rfl rfl ?_
  refine Y_if_eq_f rfl ((by decide)) ?_
  refine Y_aload_n rfl rfl ?_
  refine Y_iconst rfl ?_
  refine Y_lookS (lk_would hG hπ hP.1 hH.2.1 0) rfl rfl rfl rfl ?_
  refine Y_if_eq_f rfl ((by decide)) ?_
  refine Y_aload_n rfl rfl ?_
  refine Y_look (md_undo0 hH) rfl rfl rfl rfl rfl ?_
  refine Y_bipush rfl ?_
  refine Y_icmp_ne_f rfl (rfl) ?_
  refine Y_aload_n rfl rfl ?_
  refine Y_look (md_restore0 (z 0 3 (by decide) (by decide))) rfl rfl rfl rfl rfl ?_
  refine Y_bipush rfl ?_
  refine Y_icmp_ne_f rfl (rfl) ?_
  refine Y_aload_n rfl rfl ?_
  refine Y_deed (md_save hG) rfl rfl rfl rfl rfl (fun w S1 R1 hQ => ?_)
  obtain ⟨rfl, rfl, s1, s2, s3⟩ := hQ
  have e12 : S1 2 = S0 2 := s1 2 (by decide) (by decide) (by decide)
  have hG1 : GR (S1 2) 0 := by rw [e12]; exact hG
  obtain ⟨π1, hπ1⟩ := hG1.2.2.1
  have hP1 : PD S1 0 := by rw [PD, s1 10 (by decide) (by decide) (by decide)]; exact hP
  have hH1 : HI S1 R0 0 := ⟨RO_0, by rw [s1 3 (by decide) (by decide) (by decide)]; exact hH.2.1, by decide, fun k hk => absurd hk (Nat.not_lt_zero k)⟩
  refine Y_if_ne_f rfl (rfl) ?_
  refine Y_iconst rfl ?_
  refine Y_goto rfl ?_
  refine Y_ist_13_2 rfl rfl ?_
  refine Y_aload_n rfl rfl ?_
  refine Y_lookS (lk_look hG1 hπ1 hP1.1 hH1.2.1) rfl rfl rfl rfl ?_
  refine Y_lst_13_3 rfl rfl ?_
  refine Y_iconst rfl ?_
  refine Y_ist_13_5 rfl rfl ?_
  refine lp_all hL S1 R0 _ none none none none none none none ⟨0, 0, 0, 0, hH1, hG1, hP1, by rw [s2]; decide, GR_cg s3 hG, ?_⟩
  exact lookV_cg (fun j hj => by rw [s3 j hj, e12]) (by decide)
set_option maxRecDepth 100000 in
theorem law_walk (hL : L < 2 ^ 31) : ∃ S' R', G L xs 0 0 0 [some (.ref 1000), none, none, none, none, none, none, none, none, none, none, none, none] [] (fun _ _ => 0, fun _ _ => none, 0) (some (.int 1)) (S', PF R', 24) := by
  obtain ⟨r, S', R', hr, g⟩ := lw_8 (xs := xs) hL (S0 := u2 (u2 (fun _ _ => 0) 2 tI) 21 tI) (fun i h1 h2 => by rw [u2_ne h2, u2_ne h1]) (by rw [u2_ne (by decide), u2_same]) _ LK.rf
  have hr : r = some (.int 1) := hr
  subst hr
  refine ⟨S', R', ?_⟩
  rw [← PK_0]
  have hz : ∀ i, 1 ≤ i → (fun _ _ => 0 : Nat → Nat → Int32) i = fun _ => 0 := fun _ _ => rfl
  refine C_new (q := 0) (c := 0) rfl rfl rfl (by decide +kernel) rfl ?_
  refine G_dup rfl rfl ?_
  refine G_callI (a := 0) (ci_X hz) rfl rfl rfl rfl rfl rfl ?_
  refine G_astore_n rfl rfl ?_
  rw [PK_end]
  exact g
end WALK
