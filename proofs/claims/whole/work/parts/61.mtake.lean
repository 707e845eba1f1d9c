/-! the document's own reckoning: texts, part 6: readings of the pad are taken -/
abbrev cm (f : Nat → Int32) (i : Nat) : Nat := cnt (fun i => decide (f i = 44)) i
theorem sOf_1 (f : Nat → Int32) (k : Nat) : ∀ i, cm f i ≤ k → (sOf f k i).1 = cm f i
  | 0, _ => rfl
  | i + 1, h => by
    by_cases e : f i = 44
    · have e1 : cm f (i + 1) = cm f i + 1 := cnt_t (decide_eq_true e)
      have ih := sOf_1 f k i (by omega)
      rw [sOf, if_pos (by omega), if_pos e, e1, ih]
    · have e1 : cm f (i + 1) = cm f i := cnt_f (decide_eq_false e)
      have ih := sOf_1 f k i (by omega)
      rw [sOf, e1, if_neg e, ite_self, ih]
theorem sOf_at {f : Nat → Int32} {j n k : Nat} (hj : j < n) (h : f j = 44) (hc : cm f j = k) : (sOf f (k + 1) n).2 = j + 1 := by
  have h1 := sOf_1 f (k + 1) j (by omega)
  have h2 : sOf f (k + 1) (j + 1) = (k + 1, j + 1) := by rw [sOf, if_pos (by omega), if_pos h, h1, hc]
  have h3 := sOf_stop (f := f) (k := k + 1) (i := j + 1) (by rw [h2]; exact Nat.lt_irrefl _) (n - (j + 1))
  rw [show j + 1 + (n - (j + 1)) = n by omega] at h3
  rw [h3, h2]
theorem sOf_z (f : Nat → Int32) (n : Nat) : (sOf f 0 n).2 = 0 := by
  have h := sOf_stop (f := f) (k := 0) (i := 0) (Nat.not_lt_zero _) n
  rw [Nat.zero_add] at h
  rw [h]; rfl
theorem cm_flat {f : Nat → Int32} {p : Nat} : ∀ d, (∀ j, p ≤ j → j < p + d → f j ≠ 44) → cm f (p + d) = cm f p
  | 0, _ => rfl
  | d + 1, h => by
    have ih := cm_flat d (fun j h1 h2 => h j h1 (by omega))
    rw [← ih]
    exact cnt_f (decide_eq_false (h (p + d) (by omega) (by omega)))
theorem cm_mono {f : Nat → Int32} {p : Nat} : ∀ d, cm f p ≤ cm f (p + d)
  | 0 => Nat.le_refl _
  | d + 1 => by
    have ih := cm_mono (f := f) (p := p) d
    show _ ≤ cnt _ (p + d + 1)
    rw [cnt]
    exact Nat.le_trans ih (Nat.le_add_right _ _)
theorem cnt_1 {f g : Nat → Bool} {j : Nat} (h : ∀ i, i ≠ j → g i = f i) : ∀ n, (n ≤ j → cnt g n = cnt f n) ∧ cnt g n ≤ cnt f n + 1
  | 0 => ⟨fun _ => rfl, Nat.zero_le _⟩
  | n + 1 => by
    have ih := cnt_1 h n
    refine ⟨fun q => ?_, ?_⟩
    · rw [cnt, cnt, ih.1 (by omega), h n (by omega)]
    · rw [cnt, cnt]
      by_cases e : n = j
      · rw [ih.1 (by omega)]
        cases g n <;> cases f n <;> simp <;> omega
      · rw [h n e]
        have := ih.2
        omega
theorem cnt_pos {f : Nat → Bool} {j n : Nat} (hj : j < n) (h : f j = true) : 0 < cnt f n := by
  refine Decidable.byContradiction fun q => ?_
  have := cnt_0.mp (show cnt f n = 0 by omega) j hj
  rw [h] at this
  cases this
theorem cnt_hi {row : Nat → Int32} {j : Nat} {v : Int32} (hj : 96 ≤ j) : cnt (hs (upd row j v)) 96 = cnt (hs row) 96 := cnt_congr (fun i hi => by rw [hs_up2, if_neg (by omega)])
theorem EN_40 {row row' : Nat → Int32} {T a p : Nat} {x r : Int32} (h : EN row T a p x r row') (h40 : cnt (hs row) 96 < 40) : cnt (hs row') 96 ≤ 40 := by
  obtain ⟨rs, hr, h1, h2⟩ := h
  by_cases h0 : rs = 0
  · rw [(h2 h0).1, cnt_hi (by decide)]
    have := (cnt_1 (f := hs row) (g := hs (upd row (a * 12 + p) x)) (j := a * 12 + p) (fun i hi => by rw [hs_up2, if_neg hi]) 96).2
    omega
  · rw [(h1 h0).2, cnt_hi (by decide)]
    omega
theorem TP_40 {row row' : Nat → Int32} {T : Nat} {t p x r : Int32} (h : TP row T t p x r row') (hT : NT row T) (h40 : cnt (hs row) 96 ≤ 40) : cnt (hs row') 96 ≤ 40 := by
  have e := tAll_cnt hT
  cases hr : rdOK row t p x with
  | false => rw [(h.1 hr).2]; exact h40
  | true =>
    by_cases h4 : tAll row T < 40
    · obtain ⟨a, b, -, -, ha, hb, en⟩ := (h.2 hr).2 h4
      exact EN_40 en (by omega)
    · rw [((h.2 hr).1 h4).2]; exact h40
set_option maxRecDepth 100000 in
theorem TK_good {f : Nat → Int32} {n T : Nat} {tk : Nat} {st : Option Int32} {row' : Nat → Int32} : ∀ (l k : Nat) (row : Nat → Int32), TK f n T l k row tk st row' → NT row T → (∃ π, Pot row π) → cnt (hs row) 96 ≤ 40 → NT row' T ∧ (∃ π, Pot row' π) ∧ cnt (hs row') 96 ≤ 40 := by
  intro l
  induction l with
  | zero =>
    intro k row h h1 h2 h3
    obtain ⟨-, -, e⟩ := h
    rw [e]
    exact ⟨h1, h2, h3⟩
  | succ l ih =>
    intro k row h h1 h2 h3
    obtain ⟨r, row1, tp, ha, hb⟩ := h
    obtain ⟨g1, g2⟩ := TP_good tp h1 h2
    have g3 := TP_40 tp h1 h3
    by_cases h10 : 10 < r
    · exact ih (k + 1) row1 (ha h10) g1 g2 g3
    · obtain ⟨-, -, e⟩ := hb h10
      rw [e]
      exact ⟨g1, g2, g3⟩
/-- an answer is never 10 -/
theorem TP_10 {row row' π : Nat → Int32} {T : Nat} {t p x r : Int32} (h : TP row T t p x r row') (hT : NT row T) (hπ : Pot row π) (hn : ¬ 10 < r) : ¬ 10 ≤ r := by
  cases hr : rdOK row t p x with
  | false => rw [(h.1 hr).1]; decide
  | true =>
    by_cases h4 : tAll row T < 40
    · obtain ⟨a, b, -, -, ha, hb, en⟩ := (h.2 hr).2 h4
      have hx : isNb x = true := by unfold rdOK at hr; rw [Bool.and_eq_true, Bool.and_eq_true] at hr; exact hr.2.2
      have hT' : NT row' T := (EN_good en hT ha hb ⟨π, hπ⟩).1
      have e40 := EN_40 en (by have := tAll_cnt hT; omega)
      have e2 := tAll_cnt hT'
      have hT8 := hT.2.1
      obtain ⟨rs, hrs, h1, h2⟩ := en
      have e3 := RS_V hπ hrs
      by_cases h0 : rs = 0
      · obtain ⟨q1, q2⟩ := h2 h0
        have : 0 < cnt (hs row') 96 := cnt_pos (j := a * 12 + b) (by omega) (by rw [q1, hs_up2, if_neg (by omega), hs_up2, if_pos rfl]; simp [nb_ne hx])
        refine absurd ?_ hn
        rw [q2, show (10 : Int32) + nI (tAll row' T) = nI (10 + tAll row' T) from nI_add 10 _]
        exact nI_lt (a := 10) (by omega) (by omega)
      · rw [(h1 h0).1]
        rcases rsV_cases (row := row) (π := π) (a := a) (p := b) (x := x) with e | e | e
        · exact absurd (e3.trans e) h0
        · rw [e3.trans e]; decide
        · rw [e3.trans e]; decide
    · rw [((h.2 hr).1 h4).1]; decide
/-- the text's reading goes on from st, part k is next -/
def TI (f : Nat → Int32) (n l k : Nat) (Z : Nat → Nat → Int32) : Prop := (l = 0 → Z 24 9 = nI (n + 1)) ∧ (0 < l → Z 24 9 = nI (sOf f k n).2 ∧ (sOf f k n).2 < n ∧ cm f (sOf f k n).2 = k ∧ gF f n (n - (sOf f k n).2) (sOf f k n).2 0 = -4)
/-- a part that is read without a fault: what is behind it -/
theorem PQ_next {f : Nat → Int32} {n l k p' : Nat} {ok' : Bool} {t q v : Int32} (hc : n ≤ 60) (hl : k + (l + 1) = 1 + cm f n) (h1 : (sOf f k n).2 < n) (h2 : cm f (sOf f k n).2 = k) (h3 : gF f n (n - (sOf f k n).2) (sOf f k n).2 0 = -4) (h : PQ f n (sOf f k n).2 p' ok' t q v) : ok' = true ∧ p' ≤ n ∧ t = f (sOf f k n).2 - 48 ∧ q = f ((sOf f k n).2 + 1) - 97 ∧ isNb v = true ∧ v = nvx f n ((sOf f k n).2 + 3) ∧ (l = 0 → p' + 1 = n + 1) ∧ (0 < l → p' + 1 = (sOf f (k + 1) n).2 ∧ (sOf f (k + 1) n).2 < n ∧ cm f (sOf f (k + 1) n).2 = k + 1 ∧ gF f n (n - (sOf f (k + 1) n).2) (sOf f (k + 1) n).2 0 = -4) := by
  obtain ⟨a1, a2, a3, a4⟩ := h
  cases ok' with
  | false => exact absurd ((a3 rfl).symm.trans h3) (nI_m4 (by omega))
  | true =>
    obtain ⟨b1, b2, b3, b4, s, b5, b6, b7, b8, b9, b10⟩ := a4 rfl
    have hg : gF f n (n - p') p' s = -4 := b7.symm.trans h3
    have gl : p' < n → gN s (f p') = gNP (f p') := fun z => gN_end b5 b6 (b8 z)
    have c44 : p' < n → f p' = 44 := fun z => Decidable.byContradiction fun w => nI_m4 (show p' ≤ 60 by omega) ((gF_x z (by rw [gl z]; exact gNP_n w)).symm.trans hg)
    have nd : p' < n → gDig (f p') = false := fun z => by rw [c44 z]; decide
    have hm : cm f p' = k := by
      have := cm_flat (f := f) (p := (sOf f k n).2) (p' - (sOf f k n).2) (fun j j1 j2 => b10 j j1 (by omega))
      rw [show (sOf f k n).2 + (p' - (sOf f k n).2) = p' by omega] at this
      rw [this, h2]
    refine ⟨rfl, a2, b2, b3, b4, b9 nd, fun z => ?_, fun z => ?_⟩
    · refine Decidable.byContradiction fun w => ?_
      have hp : p' < n := by omega
      have e1 : cm f (p' + 1) = cm f p' + 1 := cnt_t (decide_eq_true (c44 hp))
      have e2 := cm_mono (f := f) (p := p' + 1) (n - (p' + 1))
      rw [show p' + 1 + (n - (p' + 1)) = n by omega] at e2
      omega
    · have hp : p' < n := Decidable.byContradiction fun w => by
        have : p' = n := by omega
        rw [this] at hm
        omega
      have e1 : cm f (p' + 1) = cm f p' + 1 := cnt_t (decide_eq_true (c44 hp))
      have e0 := sOf_at hp (c44 hp) hm
      have g0 : gF f n (n - (p' + 1)) (p' + 1) 0 = -4 := (gF_s hp (by rw [gl hp, c44 hp]; rfl)).symm.trans hg
      rw [e0]
      refine ⟨rfl, ?_, by rw [e1, hm], g0⟩
      refine Decidable.byContradiction fun w => ?_
      have : p' + 1 = n := by omega
      rw [this, gF_e (by decide)] at g0
      exact nI_m4 hc g0
/-- what take may change beside the table -/
def TFr (S S' : Nat → Nat → Int32) : Prop := (∀ i, i ≠ 24 → i ≠ 25 → i ≠ 29 → i ≠ 30 → i ≠ 31 → S' i = S i) ∧ ∀ j, j ≠ 6 → j < 9 ∨ 14 < j → S' 24 j = S 24 j
theorem TFr.tr {S S1 S2 : Nat → Nat → Int32} (h1 : TFr S S1) (h2 : TFr S1 S2) : TFr S S2 := ⟨fun i a b c d e => (h2.1 i a b c d e).trans (h1.1 i a b c d e), fun j a b => (h2.2 j a b).trans (h1.2 j a b)⟩
theorem TFr_P {S S' : Nat → Nat → Int32} (h : PFr S S') : TFr S S' := ⟨fun i a _ _ _ _ => h.1 i a, fun j _ b => h.2 j (by omega)⟩
theorem TFr_u {S : Nat → Nat → Int32} {j : Nat} {x : Int32} (hj : j = 6 ∨ (9 ≤ j ∧ j ≤ 14)) : TFr S (u2 S 24 (upd (S 24) j x)) := ⟨fun i a _ _ _ _ => u2_ne a, fun i a b => by rw [u2_same, upd_ne (by omega)]⟩
section MTK
variable (R : Nat → Nat)
set_option maxRecDepth 100000 in
theorem mk_stop {Z : Nat → Nat → Int32} {k st : Nat} {r : Int32} (hr : ¬ 10 ≤ r) (l3 : Option Value) : Gm kM_take 104 [some (.ref 24), some (.int (nI k)), some (.int (nI st)), l3] [.int r] (Z, PF R, 32) (some (.int (nI k))) (u2 (u2 (u2 Z 24 (upd (Z 24) 14 1)) 31 (upd (upd (upd (Z 31) 0 r) 1 (nI k)) 2 (nI st))) 24 (upd (upd (Z 24) 14 1) 6 0), PF R, 32) := by
  refine H_ist_4_3 rfl rfl ?_
  refine G_iload_n rfl rfl ?_
  refine G_bipush rfl ?_
  refine G_icmp_ge rfl (fun h => ?_) (fun h => ?_)
  · exact absurd h hr
  refine G_aload_n rfl rfl ?_
  refine G_iconst rfl ?_
  refine H_putI rfl rfl rfl rfl ?_
  refine G_aload_n rfl rfl ?_
  refine H_getR rfl rfl rfl rfl rfl rfl ?_
  refine G_iconst rfl ?_
  refine G_iload_n rfl rfl ?_
  refine H_iast rfl (rfl) (rfl) ((by decide)) (rfl) ?_
  refine G_aload_n rfl rfl ?_
  refine H_getR rfl rfl rfl rfl rfl rfl ?_
  refine G_iconst rfl ?_
  refine G_iload_n rfl rfl ?_
  refine H_iast rfl (rfl) (rfl) ((by decide)) (rfl) ?_
  refine G_aload_n rfl rfl ?_
  refine H_getR rfl rfl rfl rfl rfl rfl ?_
  refine G_iconst rfl ?_
  refine G_iload_n rfl rfl ?_
  refine H_iast rfl (rfl) (rfl) ((by decide)) (rfl) ?_
  refine G_goto rfl ?_
  refine G_goto rfl ?_
  rw [u2_u2, u2_u2, u2_same, u2_same, u2_ne (show 31 ≠ 24 by decide)]
  refine G_aload_n rfl rfl ?_
  refine H_getI rfl rfl rfl rfl ?_
  refine G_if_ne rfl (fun h2 => ?_) (fun h2 => ?_)
  · skip
    refine G_aload_n rfl rfl ?_
    refine G_iconst rfl ?_
    refine H_putI rfl rfl rfl rfl ?_
    refine G_iload_n rfl rfl ?_
    exact H_ret rfl rfl (rfl) ((by rw [u2_ne (show 24 ≠ 31 by decide), u2_same]))
  · exact absurd (by rw [u2_ne (show 24 ≠ 31 by decide), u2_same, upd_same]; decide) h2
end MTK
