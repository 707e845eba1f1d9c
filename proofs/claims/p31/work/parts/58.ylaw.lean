/-! undo, save, restore over a state; a look of the same row -/
section CG
variable {row row' : Nat → Int32} {T : Nat}
theorem tHas_cg (h : ∀ j, j < 96 → row' j = row j) (t p : Int32) : tHas row' t p = tHas row t p := by
  cases hi : tIn t p with
  | false => unfold tHas tAt; rw [hi]; rfl
  | true =>
    obtain ⟨a, b, ha, hb, rfl, rfl⟩ := tIn_ix hi
    unfold tHas
    rw [tAt_nI ha hb, tAt_nI ha hb, h _ (by omega)]
theorem tOf_cg (h : ∀ j, j < 96 → row' j = row j) (t : Int32) (n : Nat) : tOf row' t n = tOf row t n := cnt_congr (fun i _ => tHas_cg h t (nI i))
theorem tAtP_cg (h : ∀ j, j < 96 → row' j = row j) (p : Int32) (n : Nat) : tAtP row' p n = tAtP row p n := cnt_congr (fun i _ => tHas_cg h (nI i) p)
theorem tAll_cg (h : ∀ j, j < 96 → row' j = row j) (n : Nat) : tAll row' n = tAll row n := sm_congr (fun i _ => tOf_cg h (nI i) 12)
theorem tBare_cg (h : ∀ j, j < 96 → row' j = row j) (n : Nat) : tBare row' T n = tBare row T n := cnt_congr (fun i _ => by rw [tAtP_cg h])
theorem tBareT_cg (h : ∀ j, j < 96 → row' j = row j) (n : Nat) : tBareT row' n = tBareT row n := cnt_congr (fun i _ => by rw [tOf_cg h])
theorem lkc_cg (h : ∀ j, j < 101 → row' j = row j) {k : Nat} (hk : k < 12) : lkc row' T k = lkc row T k := by
  have h96 : ∀ j, j < 96 → row' j = row j := fun j hj => h j (by omega)
  unfold lkc
  by_cases hc : k < 2 ∨ 5 < k
  · rw [if_pos hc, if_pos hc]
    rcases (show k = 0 ∨ k = 1 ∨ k = 6 ∨ k = 7 ∨ k = 8 ∨ k = 9 ∨ k = 10 ∨ k = 11 by omega) with rfl | rfl | rfl | rfl | rfl | rfl | rfl | rfl
    · exact h 96 (by decide)
    · exact congrArg nI (tAll_cg h96 T)
    · exact congrArg nI (tBare_cg h96 12)
    · exact congrArg nI (tBareT_cg h96 T)
    · exact h 97 (by decide)
    · exact h 98 (by decide)
    · exact h 99 (by decide)
    · exact h 100 (by decide)
  · rw [if_neg hc, if_neg hc]
theorem lkC_cg (h : ∀ j, j < 101 → row' j = row j) : ∀ k, k ≤ 12 → lkC row' T k = lkC row T k
  | 0, _ => rfl
  | k + 1, hk => by rw [lkC, lkC, lkC_cg h k (by omega), lkc_cg h (by omega)]
theorem lkR_cg (h : ∀ j, j < 96 → row' j = row j) (z : Int64) : ∀ k, k ≤ 96 → lkR row' z k = lkR row z k
  | 0, _ => rfl
  | k + 1, hk => by
    have e : rv row' k = rv row k := by unfold rv; rw [hs_cg (h k (by omega)), h k (by omega)]
    rw [lkR, lkR, lkR_cg h z k (by omega), e]
theorem lookV_cg (h : ∀ j, j < 101 → row' j = row j) (hT : T ≤ 8) : lookV row' T = lookV row T := by
  unfold lookV
  rw [lkC_cg h 12 (Nat.le_refl 12), lkR_cg (fun j hj => h j (by omega)) _ _ (by omega)]
end CG
section USR
variable {S0 S1 : Sf} {R R1 : Rf} {T n m Ts : Nat} {π : Nat → Int32}
/-- all but the row, the history's length, the snapshot stays -/
def OT (S0 S1 : Sf) : Prop := ∀ i, i ∉ scr → i ≠ 2 → i ≠ 3 → i ≠ 9 → i ≠ 0 → S1 i = S0 i
theorem md_undo0 (hH : HI S0 R 0) : LM S0 R kX_undo [.ref 0] (.int (-2)) := LM_of fun S hS => xm_undo0 S R (by rw [hS 3 (by decide)]; exact hH.2.1)
def UQ (S0 : Sf) (R : Rf) (n : Nat) (w : Value) (S1 : Sf) (R1 : Rf) : Prop := w = .int (nI n) ∧ R1 = R ∧ OT S0 S1 ∧ S1 3 1 = nI n ∧ S1 9 = S0 9 ∧ S1 0 = S0 0 ∧ ∀ j, j < 101 → S1 2 j = S0 (R n) j
theorem md_undo (hH : HI S0 R (n + 1)) : MM S0 R kX_undo [.ref 0] (UQ S0 R n) := fun S hS => by
  have hn4 : n < 4 := hH.2.2.1
  have h := xm_undo S R hH.1 (n := n) (by rw [hS 3 (by decide)]; exact hH.2.1) hn4
  refine ⟨_, _, _, h, rfl, rfl, fun i h1 h2 h3 _ _ => by rw [u2_ne h2, u2_ne h3]; exact hS i h1, by rw [u2_ne (by decide), u2_same, upd_same], by rw [u2_ne (by decide), u2_ne (by decide)]; exact hS 9 (by decide), by rw [u2_ne (by decide), u2_ne (by decide)]; exact hS 0 (by decide), fun j hj => ?_⟩
  rw [u2_same]
  show (if j < 101 then S (R n) j else _) = _
  rw [if_pos hj, hS _ (scr_Rk hH.1 hn4)]
def SQ (S0 : Sf) (R : Rf) (T : Nat) (w : Value) (S1 : Sf) (R1 : Rf) : Prop := w = .int (nI (tAll (S0 2) T)) ∧ R1 = R ∧ (∀ i, i ∉ scr → i ≠ 9 → i ≠ 0 → S1 i = S0 i) ∧ S1 0 3 = 1 ∧ ∀ j, j < 101 → S1 9 j = S0 2 j
theorem md_save (hG : GR (S0 2) T) : MM S0 R kX_save [.ref 0] (SQ S0 R T) := fun S hS => by
  have e : S 2 = S0 2 := hS 2 (by decide)
  have h := xm_save S R (T := T) (e ▸ hG.1)
  rw [e] at h
  refine ⟨_, _, _, h, rfl, rfl, fun i h1 h2 h3 => by rw [u2_ne h3, u2_ne h2]; exact hS i h1, by rw [u2_same, upd_same], fun j hj => ?_⟩
  rw [u2_ne (by decide), u2_same]
  exact if_pos hj
theorem md_restore0 (h0 : S0 0 3 = 0) : LM S0 R kX_restore [.ref 0] (.int (-2)) := LM_of fun S hS => xm_restore0 S R (by rw [hS 0 (by decide)]; exact h0)
theorem md_restore (hH : HI S0 R n) (h0 : S0 0 3 ≠ 0) (hG : GR (S0 9) Ts) : MM S0 R kX_restore [.ref 0] (DQ S0 R n (nI (tAll (cpy (S0 9) (S0 2) 101) Ts)) (cpy (S0 9) (S0 2) 101)) := fun S hS => by
  have e2 : S 2 = S0 2 := hS 2 (by decide)
  have e9 : S 9 = S0 9 := hS 9 (by decide)
  have h := xm_restore S R hH.1 (n := n) (T := Ts) (by rw [hS 3 (by decide)]; exact hH.2.1) hH.2.2.1 (by rw [hS 0 (by decide)]; exact h0) (e9 ▸ hG.1)
  rw [e2, e9] at h
  exact ⟨_, _, _, h, rfl, DX_xf hH.1 hS XF_u⟩
end USR
