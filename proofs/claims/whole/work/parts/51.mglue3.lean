/-! the document's own reckoning: deeds, part 10: glue -/
section MDA
variable (S : Nat → Nat → Int32) (R : Nat → Nat) {row : Nat → Int32} {T : Nat} {π : Nat → Int32}
set_option maxRecDepth 100000 in
theorem mm_glue0 (hC : CR row T (S 25)) {t o : Int32} (h : ¬ (tIs row t = true ∧ tIs row o = true ∧ t ≠ o)) : EvM kM_glue [.ref 24, .int t, .int o] (mk S R) (some (.int (-1))) (mk S R) := by
  have c1 := ev_misTape S R hC.cs t
  have c2 := ev_misTape S R hC.cs o
  refine EvM_mk [some (.ref 24), some (.int t), some (.int o)] rfl rfl rfl rfl rfl (trivial) ?_
  refine G_aload_n rfl rfl ?_
  refine G_iload_n rfl rfl ?_
  refine H_callV (c1) rfl rfl rfl rfl rfl rfl rfl rfl ?_
  refine G_if_eq rfl (fun h1 => ?_) (fun h1 => ?_)
  · skip
    refine G_iconst rfl ?_
    exact H_ret rfl rfl (rfl) (rfl)
  refine G_aload_n rfl rfl ?_
  refine G_iload_n rfl rfl ?_
  refine H_callV (c2) rfl rfl rfl rfl rfl rfl rfl rfl ?_
  refine G_if_eq rfl (fun h2 => ?_) (fun h2 => ?_)
  · skip
    refine G_iconst rfl ?_
    exact H_ret rfl rfl (rfl) (rfl)
  refine G_iload_n rfl rfl ?_
  refine G_iload_n rfl rfl ?_
  refine G_icmp_ne rfl (fun h3 => ?_) (fun h3 => ?_)
  · exact absurd ⟨b2i_n0.mp h1, b2i_n0.mp h2, h3⟩ h
  refine G_iconst rfl ?_
  exact H_ret rfl rfl (rfl) (rfl)
set_option maxRecDepth 100000 in
theorem mm_glue (hC : CR row T (S 25)) (hπ : Pot row π) {n a b : Nat} (hn : S 24 2 = nI n) (hn4 : n ≤ 4) (ha : a < T) (hb : b < T) (hab : a ≠ b) : ∃ S1 T', EvM kM_glue [.ref 24, .int (nI a), .int (nI b)] (mk S R) (some (.int (glA row π a b))) (mk S1 R) ∧ MD S S1 n (glR row π a b) T' := by
  have hT8 := hC.1.2.1
  have c1 := ev_misTape S R hC.cs (nI a)
  rw [tIs_nI hC.1.1 hT8 ha] at c1
  have c2 := ev_misTape S R hC.cs (nI b)
  rw [tIs_nI hC.1.1 hT8 hb] at c2
  obtain ⟨S0, c3, mr⟩ := ev_mrecords S R hn hn4
  obtain ⟨S1, T', c4, f1, h1⟩ := ev_mgoGlue S0 R (row := row) (T := T) (by rw [mr.1 25 (by decide) (by decide)]; exact hC) hπ ha hb hab
  refine ⟨S1, T', ?_, S0, mr, f1, h1⟩
  refine EvM_mk [some (.ref 24), some (.int (nI a)), some (.int (nI b))] rfl rfl rfl rfl rfl (trivial) ?_
  refine G_aload_n rfl rfl ?_
  refine G_iload_n rfl rfl ?_
  refine H_callV (c1) rfl rfl rfl rfl rfl rfl rfl rfl ?_
  refine G_if_eq rfl (fun h1 => ?_) (fun h1 => ?_)
  · exact absurd h1 (by decide)
  refine G_aload_n rfl rfl ?_
  refine G_iload_n rfl rfl ?_
  refine H_callV (c2) rfl rfl rfl rfl rfl rfl rfl rfl ?_
  refine G_if_eq rfl (fun h2 => ?_) (fun h2 => ?_)
  · exact absurd h2 (by decide)
  refine G_iload_n rfl rfl ?_
  refine G_iload_n rfl rfl ?_
  refine G_icmp_ne rfl (fun h3 => ?_) (fun h3 => ?_)
  · skip
    refine G_aload_n rfl rfl ?_
    refine H_callU (c3) rfl rfl rfl rfl rfl rfl rfl rfl ?_
    refine G_aload_n rfl rfl ?_
    refine G_iload_n rfl rfl ?_
    refine G_iload_n rfl rfl ?_
    refine H_callV (c4) rfl rfl rfl rfl rfl rfl rfl rfl ?_
    exact H_ret rfl rfl (rfl) (rfl)
  · exact absurd ((nI_eq (show a < 2 ^ 31 by omega) (show b < 2 ^ 31 by omega)).mp (Decidable.of_not_not h3)) hab
end MDA
