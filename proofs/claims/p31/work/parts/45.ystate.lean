/-! the state behind a deed: recorded or not -/
theorem GR_cg {row row' : Nat → Int32} {T : Nat} (hr : ∀ j, j < 101 → row' j = row j) (h : GR row T) : GR row' T := by
  obtain ⟨⟨a1, a2, a3⟩, b, ⟨π, hπ⟩, h40⟩ := h
  have eh : ∀ j, j < 96 → hs row' j = hs row j := fun j hj => hs_cg (hr j (by omega))
  refine ⟨⟨by rw [hr 96 (by decide)]; exact a1, a2, fun j h1 h2 => by rw [hr j (by omega)]; exact a3 j h1 h2⟩, fun j hj hh => ?_, ⟨π, fun j hj hh => ?_⟩, by rw [cnt_congr eh]; exact h40⟩
  · rw [hr j (by omega)]; rw [eh j hj] at hh; exact b j hj hh
  · rw [hr j (by omega)]; rw [eh j hj] at hh; exact hπ j hj hh
def HI (S : Sf) (R : Rf) (n : Nat) : Prop := RO R ∧ S 3 1 = nI n ∧ n ≤ 4 ∧ ∀ k, k < n → ∃ T, GR (S (R k)) T
def PD (S : Sf) (m : Nat) : Prop := S 10 1 = nI m ∧ m ≤ 60
/-- a deed was recorded, and left this row -/
def DX (S0 : Sf) (R : Rf) (n : Nat) (S1 : Sf) (R1 : Rf) (row : Nat → Int32) : Prop := R1 = recR R n ∧ S1 2 = row ∧ ∀ i, i ∉ scr → i ≠ 2 → S1 i = recS S0 R n i
/-- what the law may say of an act: nothing recorded and the row as it was, or one state more, the row as it was -/
def AC (S0 : Sf) (R : Rf) (n : Nat) (S1 : Sf) (R1 : Rf) : Prop :=
  RO R1 ∧ S1 9 = S0 9 ∧ S1 0 3 = S0 0 3 ∧ (∃ m, PD S1 m) ∧ (∃ T, GR (S1 2) T) ∧
  ((R1 = R ∧ S1 2 = S0 2 ∧ S1 3 1 = nI n ∧ ∀ k, k < n → S1 (R k) = S0 (R k)) ∨
   (S1 3 1 = nI (recN n + 1) ∧ (∀ k, k < recN n + 1 → ∃ T, GR (S1 (R1 k)) T) ∧ ∀ j, j < 101 → S1 (R1 (recN n)) j = S0 2 j))
section YST
variable {S0 S S1 S2 : Sf} {R R1 : Rf} {T n m : Nat} {π row : Nat → Int32}
theorem scr_Rk {R : Rf} (hR : RO R) {k : Nat} (hk : k < 4) : R k ∉ scr := by
  have h := hR.1 k hk
  rcases (show R k = 5 ∨ R k = 6 ∨ R k = 7 ∨ R k = 8 by omega) with e | e | e | e <;> rw [e] <;> decide
theorem AC_lk (h : AC S0 R n S1 R1) (hn4 : n ≤ 4) (hl : LK S1 S2) : AC S0 R n S2 R1 := by
  obtain ⟨h1, h2, h3, ⟨m, h4⟩, h5, h6⟩ := h
  refine ⟨h1, by rw [hl 9 (by decide)]; exact h2, by rw [hl 0 (by decide)]; exact h3, ⟨m, by rw [PD, hl 10 (by decide)]; exact h4⟩, by rw [hl 2 (by decide)]; exact h5, ?_⟩
  rcases h6 with ⟨e, a, b, c⟩ | ⟨a, b, c⟩
  · subst e
    exact Or.inl ⟨rfl, by rw [hl 2 (by decide)]; exact a, by rw [hl 3 (by decide)]; exact b, fun k hk => by rw [hl _ (scr_Rk h1 (by omega))]; exact c k hk⟩
  · have hN : recN n < 4 := by unfold recN; split <;> omega
    exact Or.inr ⟨by rw [hl 3 (by decide)]; exact a, fun k hk => by rw [hl _ (scr_Rk h1 (by omega))]; exact b k hk, fun j hj => by rw [hl _ (scr_Rk h1 (by omega))]; exact c j hj⟩
theorem AC_rf (hH : HI S0 R n) (hG : GR (S0 2) T) (hP : PD S0 m) : AC S0 R n S0 R := ⟨hH.1, rfl, rfl, ⟨m, hP⟩, ⟨T, hG⟩, Or.inl ⟨rfl, rfl, hH.2.1, fun _ _ => rfl⟩⟩
theorem recS_lk (hR : RO R) (hl : LK S0 S) {i : Nat} (hi : i ∉ scr) : recS S R n i = recS S0 R n i := by
  have hR' := RO_rec hR n
  have hN : recN n < 4 := by unfold recN; split <;> omega
  unfold recS
  rw [hl 2 (by decide), hl 3 (by decide), hl _ (scr_Rk hR' hN)]
  by_cases h3 : i = 3
  · rw [h3, u2_same, u2_same]
  · rw [u2_ne h3, u2_ne h3]
    by_cases h4 : i = recR R n (recN n)
    · rw [h4, u2_same, u2_same]
    · rw [u2_ne h4, u2_ne h4]; exact hl i hi
theorem DX_xf (hR : RO R) (hl : LK S0 S) (h : XF S R n S1 row) : DX S0 R n S1 (recR R n) row := ⟨rfl, h.1, fun i h1 h2 => (h.2 i h1 h2).trans (recS_lk hR hl h1)⟩
theorem rec_oth (hR : RO R) (hn4 : n ≤ 4) {i : Nat} (h : i < 3 ∨ i = 4 ∨ 8 < i) : recS S0 R n i = S0 i := rec_ne S0 R hR hn4 h
theorem DX_o (hR : RO R) (hn4 : n ≤ 4) (h : DX S0 R n S1 R1 row) {i : Nat} (h1 : i ∉ scr) (h2 : i ≠ 2) (h3 : i < 3 ∨ i = 4 ∨ 8 < i) : S1 i = S0 i := (h.2.2 i h1 h2).trans (rec_oth hR hn4 h3)
theorem DX_n (h : DX S0 R n S1 R1 row) : S1 3 1 = nI (recN n + 1) := by
  rw [h.2.2 3 (by decide) (by decide)]
  unfold recS
  rw [u2_same, upd_same]
theorem DX_AC (hH : HI S0 R n) (hG : GR (S0 2) T) (hP : PD S0 m) (h : DX S0 R n S1 R1 row) {T1 : Nat} (hG1 : GR row T1) : AC S0 R n S1 R1 := by
  obtain ⟨hR, hn, hn4, hh⟩ := hH
  have hN : recN n < 4 := by unfold recN; split <;> omega
  have hR' := RO_rec hR n
  have hs1 := DX_n h
  have ho := fun i h1 h2 h3 => DX_o hR hn4 h (i := i) h1 h2 h3
  obtain ⟨rfl, h2, h3⟩ := h
  have hrow : ∀ j, j < 101 → S1 (recR R n (recN n)) j = S0 2 j := fun j hj => by
    have r1 := hR'.1 (recN n) hN
    rw [h3 _ (scr_Rk hR' hN) (by omega)]
    unfold recS
    rw [u2_ne (by omega), u2_same]
    exact if_pos hj
  refine ⟨hR', ho 9 (by decide) (by decide) (by decide), by rw [ho 0 (by decide) (by decide) (by decide)], ⟨m, by rw [PD, ho 10 (by decide) (by decide) (by decide)]; exact hP⟩, ⟨T1, by rw [h2]; exact hG1⟩, Or.inr ⟨hs1, fun k hk => ?_, hrow⟩⟩
  by_cases e : k = recN n
  · subst e
    exact ⟨T, GR_cg hrow hG⟩
  · have hk' : k < recN n := by omega
    have r1 := hR'.1 k (by omega)
    have hne : recR R n k ≠ recR R n (recN n) := fun q => e (hR'.2 k (recN n) (by omega) hN q)
    rw [h3 _ (scr_Rk hR' (by omega)) (by omega)]
    unfold recS
    rw [u2_ne (by omega), u2_ne hne]
    obtain ⟨T', hT'⟩ := hh (if n < 4 then k else k + 1) (by
      unfold recN at hk'
      by_cases z : n < 4
      · rw [if_pos z] at hk' ⊢; exact hk'
      · rw [if_neg z] at hk' ⊢; omega)
    refine ⟨T', ?_⟩
    have e9 : recR R n k = R (if n < 4 then k else k + 1) := by
      unfold recR
      by_cases z : n < 4
      · rw [if_pos z, if_pos z]
      · rw [if_neg z, if_neg z]
        have hk3 : k < 3 := by unfold recN at hk'; rw [if_neg z] at hk'; exact hk'
        rcases (show k = 0 ∨ k = 1 ∨ k = 2 by omega) with rfl | rfl | rfl <;> rfl
    rw [e9]
    exact hT'
/-! the deeds over S0 -/
theorem LM_of {kc : Nat} {As : List Value} {w : Value} (h : ∀ S : Sf, LK S0 S → EvM kc As (mk S R) (some w) (mk S R)) : LM S0 R kc As w := fun S hS => ⟨S, h S hS, hS⟩
/-- an answer, a row -/
def DQ (S0 : Sf) (R : Rf) (n : Nat) (v : Int32) (row : Nat → Int32) (w : Value) (S1 : Sf) (R1 : Rf) : Prop := w = .int v ∧ DX S0 R n S1 R1 row
variable {a b p : Nat} {x t y : Int32}
theorem md_tape0 (hG : GR (S0 2) T) (h8 : ¬ T < 8) : LM S0 R kX_tape [.ref 0] (.int (-3)) := LM_of fun S hS => xm_tape0 S R (hS 2 (by decide) ▸ hG.1) h8
theorem md_tape (hH : HI S0 R n) (hG : GR (S0 2) T) (h8 : T < 8) : MM S0 R kX_tape [.ref 0] (DQ S0 R n (nI T) (upd (S0 2) 96 (nI (T + 1)))) := fun S hS => by
  have e : S 2 = S0 2 := hS 2 (by decide)
  have h := xm_tape S R hH.1 (n := n) (T := T) (by rw [hS 3 (by decide)]; exact hH.2.1) hH.2.2.1 (e ▸ hG.1) h8
  rw [e] at h
  exact ⟨_, _, _, h, rfl, DX_xf hH.1 hS XF_u⟩
theorem md_drop0 (h : tIs (S0 2) t = false) : LM S0 R kX_drop [.ref 0, .int t] (.int (-1)) := LM_of fun S hS => xm_drop0 S R (by rw [hS 2 (by decide)]; exact h)
theorem md_drop (hH : HI S0 R n) (hG : GR (S0 2) T) (ha : a < T) : MM S0 R kX_drop [.ref 0, .int (nI a)] (DQ S0 R n (nI (tOf (S0 2) (nI a) 12)) (tRem (S0 2) a)) := fun S hS => by
  have e : S 2 = S0 2 := hS 2 (by decide)
  have h8 := hG.1.2.1
  have h := xm_drop S R hH.1 (n := n) (a := a) (by rw [hS 3 (by decide)]; exact hH.2.1) hH.2.2.1 (by omega) (by rw [e]; exact tIs_nI hG.1.1 h8 ha)
  rw [e] at h
  exact ⟨_, _, _, h, rfl, DX_xf hH.1 hS XF_u⟩
theorem md_lose0 (h : (tIs (S0 2) t && isPt y) = false) : LM S0 R kX_lose [.ref 0, .int t, .int y] (.int (-1)) := LM_of fun S hS => xm_lose0 S R (by rw [hS 2 (by decide)]; exact h)
noncomputable def loA (row : Nat → Int32) (T a p : Nat) : Int32 := if hs row (a * 12 + p) = true then 10 + nI (tAll (upd row (a * 12 + p) NONE) T) else 3
def loR (row : Nat → Int32) (a p : Nat) : Nat → Int32 := if hs row (a * 12 + p) = true then upd row (a * 12 + p) NONE else upd row 98 (row 98 + 1)
theorem md_lose (hH : HI S0 R n) (hG : GR (S0 2) T) (ha : a < T) (hp : p < 12) : MM S0 R kX_lose [.ref 0, .int (nI a), .int (nI p)] (DQ S0 R n (loA (S0 2) T a p) (loR (S0 2) a p)) := fun S hS => by
  have e : S 2 = S0 2 := hS 2 (by decide)
  have h := xm_lose S R hH.1 (n := n) (T := T) (a := a) (p := p) (by rw [hS 3 (by decide)]; exact hH.2.1) hH.2.2.1 (e ▸ hG.1) ha hp
  rw [e] at h
  exact ⟨_, _, _, h, rfl, DX_xf hH.1 hS XF_u⟩
theorem md_read0 (hG : GR (S0 2) T) (h : ¬ (rdOK (S0 2) t y x = true ∧ tAll (S0 2) T < 40)) : LM S0 R kX_read [.ref 0, .int t, .int y, .int x] (.int (if rdOK (S0 2) t y x = true then -3 else -1)) := LM_of fun S hS => by
  have e : S 2 = S0 2 := hS 2 (by decide)
  have := xm_read0 S R (T := T) (e ▸ hG.1) (t := t) (p := y) (x := x) (by rw [e]; exact h)
  rw [e] at this
  exact this
theorem md_read (hH : HI S0 R n) (hG : GR (S0 2) T) (hπ : Pot (S0 2) π) (ha : a < T) (hp : p < 12) (hx : isNb x = true) (h40 : tAll (S0 2) T < 40) : MM S0 R kX_read [.ref 0, .int (nI a), .int (nI p), .int x] (DQ S0 R n (enA (S0 2) π T a p x) (enR (S0 2) π a p x)) := fun S hS => by
  have e : S 2 = S0 2 := hS 2 (by decide)
  obtain ⟨S1, r, row, h, xf, en⟩ := xm_read S R hH.1 (n := n) (T := T) (a := a) (p := p) (by rw [hS 3 (by decide)]; exact hH.2.1) hH.2.2.1 (e ▸ hG.1) (e ▸ hG.2.2.1) ha hp hx (by rw [e]; exact h40)
  rw [e] at en
  obtain ⟨e1, e2⟩ := EN_det hπ en
  subst e1
  subst e2
  exact ⟨_, _, _, h, rfl, DX_xf hH.1 hS xf⟩
theorem md_shift0 (h : (tIs (S0 2) t && isNb x) = false) : LM S0 R kX_shift [.ref 0, .int t, .int x] (.int (-1)) := LM_of fun S hS => xm_shift0 S R (by rw [hS 2 (by decide)]; exact h)
def shA (row : Nat → Int32) (a : Nat) (x : Int32) : Int32 := if cnt (stayB row a x) 12 = 0 then 10 + nI (tOf (shR row a x 12) (nI a) 12) else 4
def shW (row : Nat → Int32) (a : Nat) (x : Int32) : Nat → Int32 := if cnt (stayB row a x) 12 = 0 then shR row a x 12 else upd row 98 (row 98 + 1)
theorem md_shift (hH : HI S0 R n) (hG : GR (S0 2) T) (ha : a < T) (hx : isNb x = true) : MM S0 R kX_shift [.ref 0, .int (nI a), .int x] (DQ S0 R n (shA (S0 2) a x) (shW (S0 2) a x)) := fun S hS => by
  have e : S 2 = S0 2 := hS 2 (by decide)
  have h := xm_shift S R hH.1 (n := n) (T := T) (a := a) (by rw [hS 3 (by decide)]; exact hH.2.1) hH.2.2.1 (e ▸ hG.1) ha hx
  rw [e] at h
  exact ⟨_, _, _, h, rfl, DX_xf hH.1 hS XF_u⟩
theorem md_cut0 (h : (tIs (S0 2) t && isNb x) = false) : LM S0 R kX_cut [.ref 0, .int t, .int x] (.int (-1)) := LM_of fun S hS => xm_cut0 S R (by rw [hS 2 (by decide)]; exact h)
theorem md_cut8 (hG : GR (S0 2) T) (ha : a < T) (h8 : ¬ T < 8) (hx : isNb x = true) : LM S0 R kX_cut [.ref 0, .int (nI a), .int x] (.int (-3)) := LM_of fun S hS => xm_cut8 S R (hS 2 (by decide) ▸ hG.1) ha h8 hx
theorem md_cutR (hH : HI S0 R n) (hG : GR (S0 2) T) (ha : a < T) (h8 : T < 8) (hx : isNb x = true) (hb : ctB (S0 2) a x) : MM S0 R kX_cut [.ref 0, .int (nI a), .int x] (DQ S0 R n 4 (upd (S0 2) 98 (S0 2 98 + 1))) := fun S hS => by
  have e : S 2 = S0 2 := hS 2 (by decide)
  have h := xm_cutR S R hH.1 (n := n) (T := T) (a := a) (by rw [hS 3 (by decide)]; exact hH.2.1) hH.2.2.1 (e ▸ hG.1) ha h8 hx (by rw [e]; exact hb)
  rw [e] at h
  exact ⟨_, _, _, h, rfl, DX_xf hH.1 hS XF_u⟩
theorem md_cut (hH : HI S0 R n) (hG : GR (S0 2) T) (ha : a < T) (h8 : T < 8) (hx : isNb x = true) (hb : ¬ ctB (S0 2) a x) : MM S0 R kX_cut [.ref 0, .int (nI a), .int x] (DQ S0 R n (10 + nI (mvN (ctR (S0 2) T) a T x 12)) (mvR (ctR (S0 2) T) a T x 12)) := fun S hS => by
  have e : S 2 = S0 2 := hS 2 (by decide)
  have h := xm_cut S R hH.1 (n := n) (T := T) (a := a) (by rw [hS 3 (by decide)]; exact hH.2.1) hH.2.2.1 (e ▸ hG.1) ha h8 hx (by rw [e]; exact hb)
  rw [e] at h
  exact ⟨_, _, _, h, rfl, DX_xf hH.1 hS XF_u⟩
theorem md_glue0 (h : ¬ (tIs (S0 2) t = true ∧ tIs (S0 2) y = true ∧ t ≠ y)) : LM S0 R kX_glue [.ref 0, .int t, .int y] (.int (-1)) := LM_of fun S hS => xm_glue0 S R (by rw [hS 2 (by decide)]; exact h)
theorem md_glue (hH : HI S0 R n) (hG : GR (S0 2) T) (hπ : Pot (S0 2) π) (ha : a < T) (hb : b < T) (hab : a ≠ b) : MM S0 R kX_glue [.ref 0, .int (nI a), .int (nI b)] (DQ S0 R n (glA (S0 2) π a b) (glR (S0 2) π a b)) := fun S hS => by
  have e : S 2 = S0 2 := hS 2 (by decide)
  obtain ⟨S1, h, xf⟩ := xm_glue S R hH.1 (n := n) (T := T) (a := a) (b := b) (by rw [hS 3 (by decide)]; exact hH.2.1) hH.2.2.1 (e ▸ hG.1) (e ▸ hπ) ha hb hab
  rw [e] at h xf
  exact ⟨_, _, _, h, rfl, DX_xf hH.1 hS xf⟩
end YST
