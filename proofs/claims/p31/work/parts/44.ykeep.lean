/-! what the deeds keep: good rows stay good; how many readings there are then -/
section YK
variable {row π : Nat → Int32} {T a b p j : Nat} {x v : Int32}
theorem RG_u (h : RG row) (hv : j < 96 → v = NONE ∨ isNb v = true) : RG (upd row j v) := fun i hi hh => by
  rw [hs_up2] at hh
  by_cases e : i = j
  · rw [if_pos e, Bool.not_eq_true', decide_eq_false_iff_not] at hh
    rw [e, upd_same]
    rcases hv (by omega) with q | q
    · exact absurd q hh
    · exact q
  · rw [if_neg e] at hh
    rw [upd_ne e]
    exact h i hi hh
theorem GR_u (h : GR row T) (hj : 96 < j) : GR (upd row j v) T := by
  obtain ⟨h1, h2, ⟨π, h3⟩, h4⟩ := h
  exact ⟨NT_u (Or.inl hj) h1, RG_u h2 (fun q => absurd q (by omega)), ⟨π, Pot_u (by omega) h3⟩, by rw [cnt_hi (by omega)]; exact h4⟩
theorem NT_tape (h : NT row T) (h8 : T < 8) : NT (upd row 96 (nI (T + 1))) (T + 1) := ⟨upd_same, h8, fun j h1 h2 => by rw [upd_ne (by omega)]; exact h.2.2 j (by omega) h2⟩
theorem GR_tape (h : GR row T) (h8 : T < 8) : GR (upd row 96 (nI (T + 1))) (T + 1) := by
  obtain ⟨h1, h2, ⟨π, h3⟩, h4⟩ := h
  exact ⟨NT_tape h1 h8, RG_u h2 (fun q => absurd q (by omega)), ⟨π, Pot_u (by omega) h3⟩, by rw [cnt_hi (by omega)]; exact h4⟩
theorem GR_lose (h : GR row T) (hj : j < 96) : GR (upd row j NONE) T := by
  obtain ⟨h1, h2, ⟨π, h3⟩, h4⟩ := h
  exact ⟨NT_none h1 hj, RG_u h2 (fun _ => Or.inl rfl), ⟨π, Pot_lose h3⟩, Nat.le_trans n40_lose h4⟩
theorem cnt_lose (hj : j < 96) (hh : hs row j = true) : cnt (hs (upd row j NONE)) 96 + 1 = cnt (hs row) 96 := by
  have := cnt_up (f := hs (upd row j NONE)) (g := hs row) (x := j) (by rw [hs_up2, if_pos rfl]; rfl) hh (fun y hy => by rw [hs_up2, if_neg hy]) (n := 96) hj
  omega
theorem cnt_put (hj : j < 96) (hh : hs row j = false) (hv : v ≠ NONE) : cnt (hs (upd row j v)) 96 = cnt (hs row) 96 + 1 :=
  cnt_up (f := hs row) (g := hs (upd row j v)) (x := j) hh (by rw [hs_up2, if_pos rfl, decide_eq_false hv]; rfl) (fun y hy => by rw [hs_up2, if_neg hy]) (n := 96) hj
theorem nb_ne (h : isNb x = true) : x ≠ NONE := fun e => by rw [e, NONE_nb] at h; cases h
theorem rs0 (h : rsV row π a p x = 0) : hs row (a * 12 + p) = false ∧ (cB row (12 + a) p = true → π p - π (12 + a) = x) := by
  unfold rsV at h
  cases hh : hs row (a * 12 + p) with
  | true => rw [hh, cond_true] at h; exact absurd h (by decide)
  | false =>
    refine ⟨rfl, fun hc => ?_⟩
    rw [hh, hc, cond_false, Bool.true_and] at h
    refine Decidable.byContradiction fun q => ?_
    rw [decide_eq_false q] at h
    exact absurd h (by decide)
theorem GR_read (h : GR row T) (hπ : Pot row π) (ha : a < T) (hp : p < 12) (hx : isNb x = true) (h40 : tAll row T < 40) (hr : rsV row π a p x = 0) : GR (upd (upd row (a * 12 + p) x) 97 v) T := by
  obtain ⟨h1, h2, -, h4⟩ := h
  have h8 := h1.2.1
  obtain ⟨r1, r2⟩ := rs0 hr
  obtain ⟨π', h'⟩ := Pot_ext (a := a) (x := x) hp hπ (fun c => r2 (cB_iff.mpr c))
  refine GR_u ⟨NT_u (Or.inr (by omega)) h1, RG_u h2 (fun _ => Or.inr hx), ⟨π', h'⟩, ?_⟩ (by decide)
  rw [tAll_cnt h1] at h40
  rw [cnt_put (by omega) r1 (nb_ne hx)]
  omega
theorem NT_drop (h : NT row T) (ha : a < T) : NT (tRem row a) (T - 1) := by
  obtain ⟨h1, h2, h3⟩ := h
  refine ⟨?_, by omega, fun j q1 q2 => ?_⟩
  · rw [tRem, upd_same, h1, show T = T - 1 + 1 by omega, nI_pred]; rfl
  · rw [tRem_at (by omega), if_pos ⟨by omega, q2⟩]
    by_cases q : j < 84
    · rw [if_pos q]; exact h3 _ (by omega) (by omega)
    · rw [if_neg q]
theorem GR_drop (h : GR row T) (ha : a < T) : GR (tRem row a) (T - 1) := by
  obtain ⟨h1, h2, ⟨π, h3⟩, h4⟩ := h
  have h8 := h1.2.1
  refine ⟨NT_drop h1 ha, fun j hj hh => ?_, Pot_drop h3, by have := n40_tRem (X := row) (b := a) (by omega); omega⟩
  have e := tRem_at (row := row) (a := a) (j := j) (by omega)
  by_cases q1 : a * 12 ≤ j ∧ j < 96
  · rw [if_pos q1] at e
    by_cases q2 : j < 84
    · rw [if_pos q2] at e
      rw [e]
      exact h2 _ (by omega) (by unfold hs at hh ⊢; rw [e] at hh; exact hh)
    · rw [if_neg q2] at e
      exact absurd e (hs_ne.mp hh)
  · rw [if_neg q1] at e
    rw [e]
    exact h2 _ hj (by rw [← hs_cg e]; exact hh)
theorem stay_nb (h : cnt (stayB row a x) 12 = 0) (hp : p < 12) (hh : hs row (a * 12 + p) = true) : isNb (row (a * 12 + p) + x) = true := by
  have := cnt_0.mp h p hp
  unfold stayB at this
  rw [hh, Bool.true_and, Bool.not_eq_false'] at this
  exact this
theorem sh_hs (h : RG row) (h0 : cnt (stayB row a x) 12 = 0) (ha : a < 8) (j : Nat) : hs (shR row a x 12) j = hs row j := by
  by_cases q : a * 12 ≤ j ∧ j < a * 12 + 12 ∧ hs row j = true
  · have hn := stay_nb h0 (p := j - a * 12) (by omega) (by rw [show a * 12 + (j - a * 12) = j by omega]; exact q.2.2)
    rw [show a * 12 + (j - a * 12) = j by omega] at hn
    rw [q.2.2]
    exact hs_ne.mpr (by rw [shR_val, if_pos q]; exact nb_ne hn)
  · exact hs_cg (by rw [shR_val, if_neg q])
theorem GR_shift (h : GR row T) (ha : a < T) (h0 : cnt (stayB row a x) 12 = 0) : GR (shR row a x 12) T := by
  obtain ⟨h1, h2, ⟨π, h3⟩, h4⟩ := h
  have h8 := h1.2.1
  refine ⟨⟨?_, h8, fun j q1 q2 => ?_⟩, fun j hj hh => ?_, Pot_shift h2 h3 h0, Nat.le_trans n40_sh h4⟩
  · rw [shR_val, if_neg (fun q => by omega)]; exact h1.1
  · rw [shR_val, if_neg (fun q => by omega)]; exact h1.2.2 j q1 q2
  · have e := sh_hs h2 h0 (by omega) j
    rw [hh] at e
    by_cases q : a * 12 ≤ j ∧ j < a * 12 + 12 ∧ hs row j = true
    · rw [shR_val, if_pos q]
      have hn := stay_nb h0 (p := j - a * 12) (by omega) (by rw [show a * 12 + (j - a * 12) = j by omega]; exact q.2.2)
      rw [show a * 12 + (j - a * 12) = j by omega] at hn
      exact hn
    · rw [shR_val, if_neg q]; exact h2 j hj e.symm
/-- a cut, place by place -/
theorem mvR_val (hab : a ≠ b) : ∀ i, i ≤ 12 → ∀ j, mvR row a b x i j = if a * 12 ≤ j ∧ j < a * 12 + i then (bif mvP row a x (j - a * 12) then NONE else row j) else if b * 12 ≤ j ∧ j < b * 12 + i then (bif mvP row a x (j - b * 12) then row (a * 12 + (j - b * 12)) - x else row j) else row j
  | 0, _, j => by rw [if_neg (by omega), if_neg (by omega)]; rfl
  | i + 1, hi, j => by
    have ih := mvR_val hab i (by omega)
    have ea : mvR row a b x i (a * 12 + i) = row (a * 12 + i) := mvR_ge hab i i (Nat.le_refl i) (by omega) (by omega)
    have ep : mvP (mvR row a b x i) a x i = mvP row a x i := by unfold mvP; rw [ea, hs_cg ea]
    rw [mvR, mvS, ep, ea]
    by_cases q1 : j = a * 12 + i
    · subst q1
      rw [if_pos ⟨by omega, by omega⟩, Nat.add_sub_cancel_left]
      cases mvP row a x i with
      | true => rw [cond_true, cond_true, upd_same]
      | false => rw [cond_false, cond_false]; exact ea
    · by_cases q2 : j = b * 12 + i
      · subst q2
        rw [if_neg (by omega), if_pos ⟨by omega, by omega⟩, Nat.add_sub_cancel_left]
        cases mvP row a x i with
        | true => rw [cond_true, cond_true, upd_ne q1, upd_same]
        | false =>
          rw [cond_false, cond_false, ih]
          rw [if_neg (by omega), if_neg (by omega)]
      · have : (bif mvP row a x i then upd (upd (mvR row a b x i) (b * 12 + i) (row (a * 12 + i) - x)) (a * 12 + i) NONE else mvR row a b x i) j = mvR row a b x i j := by
          cases mvP row a x i with
          | true => rw [cond_true, upd_ne q1, upd_ne q2]
          | false => rfl
        rw [this, ih j]
        by_cases q3 : a * 12 ≤ j ∧ j < a * 12 + i
        · rw [if_pos q3, if_pos ⟨q3.1, by omega⟩]
        · rw [if_neg q3, if_neg (show ¬ (a * 12 ≤ j ∧ j < a * 12 + (i + 1)) by omega)]
          by_cases q4 : b * 12 ≤ j ∧ j < b * 12 + i
          · rw [if_pos q4, if_pos ⟨q4.1, by omega⟩]
          · rw [if_neg q4, if_neg (show ¬ (b * 12 ≤ j ∧ j < b * 12 + (i + 1)) by omega)]
theorem mv_nb (hr : RG row) (ha : a < 8) (hx : isNb x = true) (hb : ¬ ctB row a x) (hp : p < 12) (hm : mvP row a x p = true) : isNb (row (a * 12 + p) - x) = true := by
  unfold mvP at hm
  rw [Bool.and_eq_true, decide_eq_true_eq] at hm
  have hn := hr (a * 12 + p) (by omega) hm.1
  have h0 : cnt (ccB row a x) 12 = 0 := Decidable.byContradiction fun q => hb ((ct_cc ha hr hx).mpr q)
  have hc := cnt_0.mp h0 p hp
  unfold ccB at hc
  rw [hm.1, Bool.true_and, Bool.not_eq_false', decide_eq_true_eq, Int32.le_iff_toInt_le, sub_b hn hx, show (999 : Int32).toInt = 999 by decide] at hc
  have h2 := hm.2
  rw [Int32.lt_iff_toInt_lt] at h2
  rw [isNb_iff, sub_b hn hx]
  omega
theorem ctR_at (h1 : j ≠ 96) (h2 : j ≠ 99) : ctR row T j = row j := by unfold ctR; rw [upd_ne h1, upd_ne h2]
theorem ct_hs (h : j < 96) : hs (ctR row T) j = hs row j := hs_cg (ctR_at (by omega) (by omega))
theorem ct_mvP (ha : a < 8) (hp : p < 12) : mvP (ctR row T) a x p = mvP row a x p := by unfold mvP; rw [ct_hs (by omega), ctR_at (by omega) (by omega)]
/-- a cut's row, place by place -/
theorem cut_at (h1 : NT row T) (ha : a < T) (h8 : T < 8) (hj : j < 96) : mvR (ctR row T) a T x 12 j = if a * 12 ≤ j ∧ j < a * 12 + 12 then (bif mvP row a x (j - a * 12) then NONE else row j) else if T * 12 ≤ j ∧ j < T * 12 + 12 then (bif mvP row a x (j - T * 12) then row (a * 12 + (j - T * 12)) - x else NONE) else row j := by
  rw [mvR_val (show a ≠ T by omega) 12 (Nat.le_refl 12)]
  by_cases q1 : a * 12 ≤ j ∧ j < a * 12 + 12
  · rw [if_pos q1, if_pos q1, ct_mvP (by omega) (by omega), ctR_at (by omega) (by omega)]
  · rw [if_neg q1, if_neg q1]
    by_cases q2 : T * 12 ≤ j ∧ j < T * 12 + 12
    · rw [if_pos q2, if_pos q2, ct_mvP (by omega) (by omega), ctR_at (by omega) (by omega), ctR_at (by omega) (by omega), h1.2.2 j q2.1 hj]
    · rw [if_neg q2, if_neg q2, ctR_at (by omega) (by omega)]
theorem cut_hi (ha : a < T) (h8 : T < 8) (hj : 96 ≤ j) : mvR (ctR row T) a T x 12 j = ctR row T j := by
  rw [mvR_val (show a ≠ T by omega) 12 (Nat.le_refl 12), if_neg (by omega), if_neg (by omega)]
theorem cut_hsa (h1 : NT row T) (ha : a < T) (h8 : T < 8) (hp : p < 12) : hs (mvR (ctR row T) a T x 12) (a * 12 + p) = (hs row (a * 12 + p) && !mvP row a x p) := by
  have e := cut_at (x := x) h1 ha h8 (j := a * 12 + p) (by omega)
  rw [if_pos ⟨by omega, by omega⟩, Nat.add_sub_cancel_left] at e
  cases hm : mvP row a x p with
  | true => rw [hm, cond_true] at e; unfold hs; rw [e]; simp
  | false => rw [hm, cond_false] at e; rw [hs_cg e]; simp
theorem cut_hsb (h1 : NT row T) (hr : RG row) (ha : a < T) (h8 : T < 8) (hx : isNb x = true) (hb : ¬ ctB row a x) (hp : p < 12) : hs (mvR (ctR row T) a T x 12) (T * 12 + p) = mvP row a x p := by
  have e := cut_at (x := x) h1 ha h8 (j := T * 12 + p) (by omega)
  rw [if_neg (by omega), if_pos ⟨by omega, by omega⟩, Nat.add_sub_cancel_left] at e
  cases hm : mvP row a x p with
  | true =>
    rw [hm, cond_true] at e
    exact hs_ne.mpr (by rw [e]; exact nb_ne (mv_nb hr (by omega) hx hb hp hm))
  | false => rw [hm, cond_false] at e; unfold hs; rw [e]; simp
theorem GR_cut (h : GR row T) (ha : a < T) (h8 : T < 8) (hx : isNb x = true) (hb : ¬ ctB row a x) : GR (mvR (ctR row T) a T x 12) (T + 1) := by
  obtain ⟨h1, h2, ⟨π, h3⟩, h4⟩ := h
  refine ⟨⟨?_, h8, fun j q1 q2 => ?_⟩, fun j hj hh => ?_, Pot_cut h1 ha h8 h3, ?_⟩
  · rw [cut_hi ha h8 (Nat.le_refl 96), ctR, upd_same]
  · rw [cut_at h1 ha h8 q2, if_neg (by omega), if_neg (by omega)]; exact h1.2.2 j (by omega) q2
  · have e := cut_at (x := x) h1 ha h8 hj
    by_cases q1 : a * 12 ≤ j ∧ j < a * 12 + 12
    · rw [if_pos q1] at e
      cases hm : mvP row a x (j - a * 12) with
      | true => rw [hm, cond_true] at e; exact absurd e (hs_ne.mp hh)
      | false => rw [hm, cond_false] at e; rw [hs_cg e] at hh; rw [e]; exact h2 j hj hh
    · rw [if_neg q1] at e
      by_cases q2 : T * 12 ≤ j ∧ j < T * 12 + 12
      · rw [if_pos q2] at e
        cases hm : mvP row a x (j - T * 12) with
        | true => rw [hm, cond_true] at e; rw [e]; exact mv_nb h2 (by omega) hx hb (by omega) hm
        | false => rw [hm, cond_false] at e; exact absurd e (hs_ne.mp hh)
      · rw [if_neg q2] at e
        rw [hs_cg e] at hh; rw [e]; exact h2 j hj hh
  · refine Nat.le_trans (n40_mv (by omega) (by omega) 12 (Nat.le_refl 12)) ?_
    rw [cnt_congr (fun i hi => ct_hs hi)]
    exact h4
/-- a glued row, place by place -/
theorem cmR_val (hab : a ≠ b) : ∀ i, i ≤ 12 → ∀ j, cmR row b a x i j = if a * 12 ≤ j ∧ j < a * 12 + i ∧ cmB row b a (j - a * 12) = true then row (b * 12 + (j - a * 12)) + x else row j
  | 0, _, j => by rw [if_neg (by omega)]; rfl
  | i + 1, hi, j => by
    have ih := cmR_val hab i (by omega)
    have ep : cmP (cmR row b a x i) b a i = cmB row b a i := cmP_B hab (by omega)
    have eb : cmR row b a x i (b * 12 + i) = row (b * 12 + i) := cmR_at i _ (by omega) (by omega)
    rw [cmR, cmS, ep, eb]
    by_cases q : j = a * 12 + i
    · subst q
      cases hm : cmB row b a i with
      | true =>
        rw [cond_true, upd_same, if_pos ⟨by omega, by omega, by rw [Nat.add_sub_cancel_left]; exact hm⟩, Nat.add_sub_cancel_left]
      | false =>
        rw [cond_false, ih, if_neg (by omega), if_neg (by rw [Nat.add_sub_cancel_left, hm]; simp)]
    · have : (bif cmB row b a i then upd (cmR row b a x i) (a * 12 + i) (row (b * 12 + i) + x) else cmR row b a x i) j = cmR row b a x i j := by
        cases cmB row b a i with
        | true => rw [cond_true, upd_ne q]
        | false => rfl
      rw [this, ih j]
      by_cases z : a * 12 ≤ j ∧ j < a * 12 + i ∧ cmB row b a (j - a * 12) = true
      · rw [if_pos z, if_pos ⟨z.1, by omega, z.2.2⟩]
      · rw [if_neg z, if_neg (fun w => z ⟨w.1, by omega, w.2.2⟩)]
theorem GR_cm (h : GR row T) (hπ : Pot row π) (ha : a < T) (hb : b < T) (hab : a ≠ b) (h0 : cnt (stayB row b (glB row π a b)) 12 = 0) : NT (cmR row b a (glB row π a b) 12) T ∧ RG (cmR row b a (glB row π a b) 12) := by
  obtain ⟨h1, h2, -, h4⟩ := h
  have h8 := h1.2.1
  refine ⟨⟨?_, h8, fun j q1 q2 => ?_⟩, fun j hj hh => ?_⟩
  · rw [cmR_val hab 12 (Nat.le_refl 12), if_neg (by omega)]; exact h1.1
  · rw [cmR_val hab 12 (Nat.le_refl 12), if_neg (by omega)]; exact h1.2.2 j q1 q2
  · have e := cmR_val (row := row) (x := glB row π a b) hab 12 (Nat.le_refl 12) j
    by_cases z : a * 12 ≤ j ∧ j < a * 12 + 12 ∧ cmB row b a (j - a * 12) = true
    · rw [if_pos z] at e
      rw [e]
      have hm := z.2.2
      unfold cmB at hm
      rw [Bool.and_eq_true] at hm
      exact stay_nb h0 (by omega) hm.1
    · rw [if_neg z] at e
      rw [hs_cg e] at hh
      rw [e]
      exact h2 j hj hh
theorem cm_cnt (hr : RG row) (hab : a ≠ b) (ha : a < 8) (hb : b < 8) (h0 : cnt (stayB row b x) 12 = 0) : ∀ i, i ≤ 12 → cnt (hs (cmR row b a x i)) 96 = cnt (hs row) 96 + cnt (cmB row b a) i
  | 0, _ => by show cnt (hs row) 96 = cnt (hs row) 96 + 0; rw [Nat.add_zero]
  | i + 1, hi => by
    have ih := cm_cnt hr hab ha hb h0 i (by omega)
    have ep : cmP (cmR row b a x i) b a i = cmB row b a i := cmP_B hab (by omega)
    have eb : cmR row b a x i (b * 12 + i) = row (b * 12 + i) := cmR_at i _ (by omega) (by omega)
    have ea : cmR row b a x i (a * 12 + i) = row (a * 12 + i) := cmR_at i _ (by omega) (by omega)
    rw [cmR, cmS, ep, eb]
    cases hm : cmB row b a i with
    | false => rw [cond_false, cnt_f hm]; exact ih
    | true =>
      rw [cond_true, cnt_t hm]
      unfold cmB at hm
      rw [Bool.and_eq_true, Bool.not_eq_true'] at hm
      rw [cnt_put (by omega) (by rw [hs_cg ea]; exact hm.2) (nb_ne (stay_nb h0 (by omega) hm.1)), ih]
      omega
theorem GR_glue (h : GR row T) (hπ : Pot row π) (ha : a < T) (hb : b < T) (hab : a ≠ b) (h0 : cnt (stayB row b (glB row π a b)) 12 = 0) : GR (glX row a b (glB row π a b)) (T - 1) := by
  have h8 := h.1.2.1
  obtain ⟨g1, g2⟩ := GR_cm h hπ ha hb hab h0
  have g3 : GR (tRem (cmR row b a (glB row π a b) 12) b) (T - 1) := by
    refine ⟨NT_drop g1 hb, fun j hj hh => ?_, Pot_drop (Pot_cm (by omega) (by omega) hπ 12 (Nat.le_refl 12)), ?_⟩
    · have e := tRem_at (row := cmR row b a (glB row π a b) 12) (a := b) (j := j) (by omega)
      by_cases q1 : b * 12 ≤ j ∧ j < 96
      · rw [if_pos q1] at e
        by_cases q2 : j < 84
        · rw [if_pos q2] at e
          rw [e]
          exact g2 _ (by omega) (by unfold hs at hh ⊢; rw [e] at hh; exact hh)
        · rw [if_neg q2] at e
          exact absurd e (hs_ne.mp hh)
      · rw [if_neg q1] at e
        rw [e]
        exact g2 _ hj (by rw [← hs_cg e]; exact hh)
    · have := n40_gl (row := row) (a := a) (b := b) (dx := glB row π a b) (by omega) hab
      unfold glX at this
      rw [cnt_hi (by decide)] at this
      exact Nat.le_trans this h.2.2.2
  exact GR_u g3 (by decide)
end YK
