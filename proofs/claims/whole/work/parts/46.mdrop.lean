/-! the document's own reckoning: deeds, part 5: drop -/
def dl (row : Nat → Int32) (a i : Nat) : Nat → Int32 := fun j => if a * 12 ≤ j ∧ j < a * 12 + i then NONE else row j
theorem dl_0 {row : Nat → Int32} {a : Nat} : dl row a 0 = row := by
  funext j
  unfold dl
  rw [if_neg (by omega)]
theorem dl_s {row : Nat → Int32} {a i : Nat} : upd (dl row a i) (a * 12 + i) NONE = dl row a (i + 1) := by
  funext j
  by_cases h : j = a * 12 + i
  · rw [h, upd_same]
    unfold dl
    rw [if_pos (by omega)]
  · rw [upd_ne h]
    unfold dl
    by_cases h2 : a * 12 ≤ j ∧ j < a * 12 + i
    · rw [if_pos h2, if_pos (by omega)]
    · rw [if_neg h2, if_neg (by omega)]
def dsh (f : Nat → Int32) (B m : Nat) : Nat → Int32 := fun j => if B ≤ j ∧ j < m then (if j + 12 < 102 then f (j + 12) else 0) else f j
theorem dsh_0 {f : Nat → Int32} {B : Nat} : dsh f B B = f := by
  funext j
  unfold dsh
  rw [if_neg (by omega)]
theorem dsh_s {f : Nat → Int32} {B m : Nat} (h : B ≤ m) : upd (dsh f B m) m (if m + 12 < 102 then f (m + 12) else 0) = dsh f B (m + 1) := by
  funext j
  by_cases e : j = m
  · rw [e, upd_same]
    unfold dsh
    rw [if_pos (show B ≤ m ∧ m < m + 1 by omega)]
  · rw [upd_ne e]
    unfold dsh
    by_cases h2 : B ≤ j ∧ j < m
    · rw [if_pos h2, if_pos (show B ≤ j ∧ j < m + 1 by omega)]
    · rw [if_neg h2, if_neg (show ¬ (B ≤ j ∧ j < m + 1) by omega)]
theorem tRem_at {row : Nat → Int32} {a j : Nat} (h : j ≠ 96) : tRem row a j = if a * 12 ≤ j ∧ j < 96 then (if j < 84 then row (j + 12) else NONE) else row j := by
  unfold tRem rmR
  rw [upd_ne h]
theorem CR_drop {row : Nat → Int32} {T a : Nat} {s : Nat → Int32} (h0 : NT row T) (hr : RG row) (ha : a < T) (h : CR (dl row a 12) T s) : CR (tRem row a) (T - 1) (dsh (upd s 0 (s 0 - 1)) (6 + a * 12) 102) := by
  obtain ⟨h1, h2, h3, h4, h5, h6, h7, h8, h9⟩ := h
  have hT8 := h0.2.1
  have eT : nI T - 1 = nI (T - 1) := pk_sub (b := 1) (by omega)
  have dlt : ∀ j, j < a * 12 → dl row a 12 j = row j := fun j hj => by unfold dl; rw [if_neg (by omega)]
  have dge : ∀ j, a * 12 + 12 ≤ j → dl row a 12 j = row j := fun j hj => by unfold dl; rw [if_neg (by omega)]
  have dmi : ∀ j, a * 12 ≤ j → j < a * 12 + 12 → dl row a 12 j = NONE := fun j h1 h2 => by unfold dl; rw [if_pos (by omega)]
  have low : ∀ i, i ≠ 0 → i < 6 + a * 12 → dsh (upd s 0 (s 0 - 1)) (6 + a * 12) 102 i = s i := fun i hi hj => by
    unfold dsh
    rw [if_neg (by omega), upd_ne hi]
  have tl : ∀ j, j < a * 12 → tRem row a j = row j := fun j hj => by rw [tRem_at (by omega), if_neg (by omega)]
  have tm : ∀ j, a * 12 ≤ j → j < 84 → tRem row a j = row (j + 12) := fun j h1 h2 => by rw [tRem_at (by omega), if_pos (by omega), if_pos h2]
  have te : ∀ j, 84 ≤ j → j < 96 → tRem row a j = NONE := fun j h1 h2 => by rw [tRem_at (by omega), if_pos (by omega), if_neg (by omega)]
  have tz : ∀ j, 96 < j → tRem row a j = row j := fun j hj => by rw [tRem_at (by omega), if_neg (by omega)]
  have hsq : ∀ {f g : Nat → Int32} {i j : Nat}, f i = g j → hs f i = hs g j := fun e => by unfold hs; rw [e]
  have cn : cnt (hs (tRem row a)) 96 = cnt (hs (dl row a 12)) 96 := by
    have e1 : cnt (hs (tRem row a)) (a * 12) = cnt (hs (dl row a 12)) (a * 12) := cnt_congr (fun i hi => hsq (by rw [tl i hi, dlt i hi]))
    have e2 : cnt (hs (dl row a 12)) (a * 12 + 12) = cnt (hs (dl row a 12)) (a * 12) := cnt_cut 12 (fun i q1 q2 => by unfold hs; rw [dmi i q1 q2]; rfl)
    have e3 : cnt (hs (tRem row a)) 96 = cnt (hs (tRem row a)) 84 := by
      have := cnt_cut (f := hs (tRem row a)) (a := 84) 12 (fun i q1 q2 => by unfold hs; rw [te i q1 q2]; rfl)
      exact this
    have e4 : cnt (hs (tRem row a)) 84 = cnt (hs (tRem row a)) (a * 12) + cnt (fun i => hs (tRem row a) (a * 12 + i)) (84 - a * 12) := by
      rw [← cnt_add, show a * 12 + (84 - a * 12) = 84 by omega]
    have e5 : cnt (hs (dl row a 12)) 96 = cnt (hs (dl row a 12)) (a * 12 + 12) + cnt (fun i => hs (dl row a 12) (a * 12 + 12 + i)) (84 - a * 12) := by
      rw [← cnt_add, show a * 12 + 12 + (84 - a * 12) = 96 by omega]
    rw [e3, e4, e5, e1, e2]
    exact congrArg _ (cnt_congr (fun i hi => hsq (by rw [tm _ (by omega) (by omega), dge _ (by omega)]; congr 1; omega)))
  refine ⟨⟨?_, by omega, fun j q1 q2 => ?_⟩, fun i hi hh => ?_, ?_, ?_, ?_, ?_, ?_, ?_, fun i hi => ?_⟩
  · unfold tRem
    rw [upd_same, h0.1, eT]
  · by_cases q : j < 84
    · rw [tm j (by omega) q]
      exact h0.2.2 (j + 12) (by omega) (by omega)
    · exact te j (by omega) q2
  · by_cases q1 : i < a * 12
    · rw [tl i q1]; exact hr i hi (by rw [← hsq (tl i q1)]; exact hh)
    · by_cases q2 : i < 84
      · rw [tm i (by omega) q2]; exact hr (i + 12) (by omega) (by rw [← hsq (tm i (by omega) q2)]; exact hh)
      · exact absurd (te i (by omega) hi) (hs_ne.mp hh)
  · unfold dsh
    rw [if_neg (by omega), upd_same, h3, eT]
  · rw [low 1 (by decide) (by omega), h4, cn]
  · rw [low 2 (by decide) (by omega), h5, tz 97 (by decide), dge 97 (by omega)]
  · rw [low 3 (by decide) (by omega), h6, tz 98 (by decide), dge 98 (by omega)]
  · rw [low 4 (by decide) (by omega), h7, tz 99 (by decide), dge 99 (by omega)]
  · rw [low 5 (by decide) (by omega), h8, tz 100 (by decide), dge 100 (by omega)]
  · by_cases q1 : i < a * 12
    · rw [low (6 + i) (by omega) (by omega), h9 i hi, tl i q1, dlt i q1]
    · unfold dsh
      rw [if_pos (by omega)]
      by_cases q2 : i < 84
      · rw [if_pos (by omega), upd_ne (by omega), show 6 + i + 12 = 6 + (i + 12) by omega, h9 (i + 12) (by omega), tm i (by omega) q2, dge (i + 12) (by omega)]
      · rw [if_neg (by omega), te i (by omega) hi]
        rfl
section MD5
variable (S : Nat → Nat → Int32) (R : Nat → Nat) {row : Nat → Int32} {T : Nat} {π : Nat → Int32}
set_option maxRecDepth 100000 in
theorem ev_mdropsTape (hC : CR row T (S 25)) {a : Nat} (ha : a < T) : ∃ S1, EvM kM_dropsTape [.ref 24, .int (nI a)] (mk S R) none (mk S1 R) ∧ (∀ i, i ≠ 25 → S1 i = S i) ∧ CR (tRem row a) (T - 1) (S1 25) := by
  have hT8 := hC.1.2.1
  have ix : (6 : Int32) + 12 * nI a = nI (6 + a * 12) := by
    have h : (12 : Int32) * nI a = nI (a * 12) := by rw [Nat.mul_comm, nI_mul']; rfl
    rw [h, show (6 : Int32) = nI 6 from rfl, nI_add]
  have e0 : (0 : Int32) = nI 0 := rfl
  have goal := down 12 (fun i => ∀ S : Nat → Nat → Int32, CR (dl row a i) T (S 25) → ∃ S1, Gm kM_dropsTape 2 [some (.ref 24), some (.int (nI a)), some (.int (nI i))] [] (S, PF R, 32) none (S1, PF R, 32) ∧ (∀ i, i ≠ 25 → S1 i = S i) ∧ CR (tRem row a) (T - 1) (S1 25)) (fun S hC' => by
    refine ⟨u2 S 25 (dsh (upd (S 25) 0 (S 25 0 - 1)) (6 + a * 12) 102), ?_, fun i h => u2_ne h, by rw [u2_same]; exact CR_drop hC.1 hC.2.1 ha hC'⟩
    generalize ef : upd (S 25) 0 (S 25 0 - 1) = f
    have lp : Gm kM_dropsTape 38 [some (.ref 24), some (.int (nI a)), some (.int (nI (6 + a * 12 + 0)))] [] (u2 S 25 (dsh f (6 + a * 12) (6 + a * 12 + 0)), PF R, 32) none (u2 S 25 (dsh f (6 + a * 12) 102), PF R, 32) := by
      refine down (96 - a * 12) (fun i => Gm kM_dropsTape 38 [some (.ref 24), some (.int (nI a)), some (.int (nI (6 + a * 12 + i)))] [] (u2 S 25 (dsh f (6 + a * 12) (6 + a * 12 + i)), PF R, 32) none (u2 S 25 (dsh f (6 + a * 12) 102), PF R, 32)) ?_ (fun i hi ih => ?_)
      · rw [show 6 + a * 12 + (96 - a * 12) = 102 by omega]
        refine G_iload_n rfl rfl ?_
        refine G_bipush rfl ?_
        refine G_icmp_ge rfl (fun h => ?_) (fun h => ?_)
        · skip
          exact H_retv rfl rfl (rfl)
        · exact absurd (by decide) h
      · rw [← Nat.add_assoc, ← dsh_s (by omega), nI_succ] at ih
        generalize eK : 6 + a * 12 + i = K at *
        refine G_iload_n rfl rfl ?_
        refine G_bipush rfl ?_
        refine G_icmp_ge rfl (fun h => ?_) (fun h => ?_)
        · exact absurd h (ge_no (show K < 102 by omega) (by decide))
        refine G_aload_n rfl rfl ?_
        refine H_getR rfl rfl rfl rfl rfl rfl ?_
        refine G_iload_n rfl rfl ?_
        refine G_iload_n rfl rfl ?_
        refine G_bipush rfl ?_
        refine G_iadd rfl ?_
        refine G_bipush rfl ?_
        refine G_icmp_ge rfl (fun h2 => ?_) (fun h2 => ?_)
        · have q : ¬ K + 12 < 102 := fun q => absurd (show nI 102 ≤ nI (K + 12) by rw [← nI_add]; exact h2) (ge_no q (by decide))
          rw [if_neg q] at ih
          refine G_iconst rfl ?_
          refine H_iast rfl (rfl) (rfl) ((by omega)) (rfl) ?_
          rw [u2_same, u2_u2]
          refine H_inc_3_2 rfl rfl ?_
          refine G_goto rfl ?_
          exact ih
        · have q : K + 12 < 102 := Decidable.byContradiction fun q => h2 (by show nI 102 ≤ nI K + nI 12; rw [nI_add]; exact nI_le (by omega) (by omega))
          rw [if_pos q] at ih
          have er : dsh f (6 + a * 12) K (K + 12) = f (K + 12) := by unfold dsh; rw [if_neg (by omega)]
          refine G_aload_n rfl rfl ?_
          refine H_getR rfl rfl rfl rfl rfl rfl ?_
          refine G_iload_n rfl rfl ?_
          refine G_bipush rfl ?_
          refine G_iadd rfl ?_
          refine H_iald rfl ((nI_add K 12)) (rfl) ((by omega)) (rfl) ?_
          rw [u2_same, er]
          refine G_goto rfl ?_
          refine H_iast rfl (rfl) (rfl) ((by omega)) (rfl) ?_
          rw [u2_same, u2_u2]
          refine H_inc_3_2 rfl rfl ?_
          refine G_goto rfl ?_
          exact ih
    rw [Nat.add_zero, dsh_0, ← ix] at lp
    refine G_iload_n rfl rfl ?_
    refine G_bipush rfl ?_
    refine G_icmp_ge rfl (fun h => ?_) (fun h => ?_)
    · skip
      refine G_aload_n rfl rfl ?_
      refine H_getR rfl rfl rfl rfl rfl rfl ?_
      refine G_iconst rfl ?_
      refine G_dup2 rfl rfl rfl ?_
      refine H_iald rfl (e0) (rfl) ((by decide)) (rfl) ?_
      refine G_iconst rfl ?_
      refine G_isub rfl ?_
      refine H_iast rfl (e0) (rfl) ((by decide)) (rfl) ?_
      rw [ef]
      refine G_bipush rfl ?_
      refine G_bipush rfl ?_
      refine G_iload_n rfl rfl ?_
      refine G_imul rfl ?_
      refine G_iadd rfl ?_
      refine H_ist_3_2 rfl rfl ?_
      exact lp
    · exact absurd (by decide) h) (fun i hi ih S hC' => by
    obtain ⟨s, c1, hC1⟩ := ev_mloses S R hC' (t := a) (p := i) (by omega) hi
    obtain ⟨S1, g, f1, h1⟩ := ih (u2 S 25 s) (by rw [u2_same, ← dl_s]; exact hC1)
    refine ⟨S1, ?_, fun i h => (f1 i h).trans (u2_ne h), h1⟩
    rw [nI_succ] at g
    refine G_iload_n rfl rfl ?_
    refine G_bipush rfl ?_
    refine G_icmp_ge rfl (fun h => ?_) (fun h => ?_)
    · exact absurd h (ge_no hi (by decide))
    refine G_aload_n rfl rfl ?_
    refine G_iload_n rfl rfl ?_
    refine G_iload_n rfl rfl ?_
    refine H_callU (c1) rfl rfl rfl rfl rfl rfl rfl rfl ?_
    refine H_inc_3_2 rfl rfl ?_
    refine G_goto rfl ?_
    exact g)
  obtain ⟨S1, g, f1, h1⟩ := goal S (by rw [dl_0]; exact hC)
  refine ⟨S1, ?_, f1, h1⟩
  refine EvM_mk [some (.ref 24), some (.int (nI a)), none] rfl rfl rfl rfl rfl (trivial) ?_
  refine G_iconst rfl ?_
  refine H_ist_3_2 rfl rfl ?_
  exact g
set_option maxRecDepth 100000 in
theorem mm_drop0 (hC : CR row T (S 25)) {t : Int32} (h : tIs row t = false) : EvM kM_drop [.ref 24, .int t] (mk S R) (some (.int (-1))) (mk S R) := by
  have c1 := ev_misTape S R hC.cs t
  rw [h] at c1
  refine EvM_mk [some (.ref 24), some (.int t), none] rfl rfl rfl rfl rfl (trivial) ?_
  refine G_aload_n rfl rfl ?_
  refine G_iload_n rfl rfl ?_
  refine H_callV (c1) rfl rfl rfl rfl rfl rfl rfl rfl ?_
  refine G_if_ne rfl (fun h1 => ?_) (fun h1 => ?_)
  · exact absurd rfl h1
  refine G_iconst rfl ?_
  exact H_ret rfl rfl (rfl) (rfl)
set_option maxRecDepth 100000 in
theorem mm_drop (hC : CR row T (S 25)) {n a : Nat} (hn : S 24 2 = nI n) (hn4 : n ≤ 4) (ha : a < T) : ∃ S1, EvM kM_drop [.ref 24, .int (nI a)] (mk S R) (some (.int (nI (tOf row (nI a) 12)))) (mk S1 R) ∧ MD S S1 n (tRem row a) (T - 1) := by
  have hT8 := hC.1.2.1
  have c1 := ev_misTape S R hC.cs (nI a)
  rw [tIs_nI hC.1.1 hT8 ha] at c1
  obtain ⟨S0, c3, mr⟩ := ev_mrecords S R hn hn4
  have hC0 : CR row T (S0 25) := by rw [mr.1 25 (by decide) (by decide)]; exact hC
  have c4 := ev_mmany S0 R hC0 (t := a) (by omega)
  obtain ⟨S1, c5, f1, h1⟩ := ev_mdropsTape S0 R hC0 ha
  refine ⟨S1, ?_, S0, mr, fun i h _ _ => f1 i h, h1⟩
  refine EvM_mk [some (.ref 24), some (.int (nI a)), none] rfl rfl rfl rfl rfl (trivial) ?_
  refine G_aload_n rfl rfl ?_
  refine G_iload_n rfl rfl ?_
  refine H_callV (c1) rfl rfl rfl rfl rfl rfl rfl rfl ?_
  refine G_if_ne rfl (fun h => ?_) (fun h => ?_)
  · skip
    refine G_aload_n rfl rfl ?_
    refine H_callU (c3) rfl rfl rfl rfl rfl rfl rfl rfl ?_
    refine G_aload_n rfl rfl ?_
    refine G_iload_n rfl rfl ?_
    refine H_callV (c4) rfl rfl rfl rfl rfl rfl rfl rfl ?_
    refine H_ist_3_2 rfl rfl ?_
    refine G_aload_n rfl rfl ?_
    refine G_iload_n rfl rfl ?_
    refine H_callU (c5) rfl rfl rfl rfl rfl rfl rfl rfl ?_
    refine G_iload_n rfl rfl ?_
    exact H_ret rfl rfl (rfl) (rfl)
  · exact absurd h (by decide)
end MD5
