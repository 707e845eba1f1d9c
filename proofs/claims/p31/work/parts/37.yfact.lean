/-! what holds of a good row -/
section YF
variable {row π : Nat → Int32} {T t p q : Nat}
theorem brs_le_all (hG : GR row T) : brs row ≤ tAll row T := by
  rw [tAll_cnt hG.1]
  refine cnt_sub (fun i _ h => ?_)
  unfold br at h
  rw [Bool.and_eq_true] at h
  exact h.1
theorem tOf_hsn (ht : t < 8) : ∀ n, n ≤ 12 → tOf row (nI t) n = cnt (fun i => hs row (t * 12 + i)) n := fun n hn => cnt_congr (fun i hi => tHas_nI ht (by omega))
theorem tOf_le (n : Nat) : tOf row (nI t) n ≤ n := cnt_le _ _
theorem cB_hsx (ht : t < 8) (hp : p < 20) (hne : p ≠ 12 + t) (h : cB row (12 + t) p = true) : ∃ q, q < 12 ∧ hs row (t * 12 + q) = true := by
  refine Classical.byContradiction fun hn => ?_
  have cl : Cl row (fun z => z = 12 + t) := fun j hj hh => by
    constructor
    · intro e
      exfalso
      exact hn ⟨j % 12, by omega, by rw [show t * 12 + j % 12 = j by omega]; exact hh⟩
    · intro e; exfalso; omega
  exact hne (cB_iff.mp h _ cl rfl)
theorem tOf_n0 (ht : t < 8) (hq : q < 12) (hh : hs row (t * 12 + q) = true) : ¬ nI (tOf row (nI t) 12) = 0 := by
  have h1 := tOf_le (row := row) (t := t) 12
  refine nI_ne0 (Nat.pos_of_ne_zero fun e => ?_) (by omega)
  rw [tOf_hsn ht 12 (Nat.le_refl 12)] at e
  have := cnt_0.mp e q hq
  rw [this] at hh
  cases hh
theorem tB_some (ht : t < 8) (lt : Int32 → Int32 → Bool) (hq : q < 12) (hh : hs row (t * 12 + q) = true) : ∃ r, r < 12 ∧ hs row (t * 12 + r) = true ∧ tBest row (nI t) lt 12 = nI r := by
  rcases tBest_ix ht lt 12 (Nat.le_refl 12) with ⟨-, h⟩ | h
  · rw [h q hq] at hh; cases hh
  · exact h
theorem tB_keep {lt : Int32 → Int32 → Bool} (ht : t < 8) (hp : p < 12) (h : hs row (t * 12 + p) = false) : tBest row (nI t) lt (p + 1) = tBest row (nI t) lt p := by
  rw [tBest, tHas_nI ht hp, h, Bool.false_and, cond_false]
theorem tB_first {lt : Int32 → Int32 → Bool} (ht : t < 8) (hp : p < 12) (h : hs row (t * 12 + p) = true) (h4 : tBest row (nI t) lt p = -4) : tBest row (nI t) lt (p + 1) = nI p := by
  rw [tBest, tHas_nI ht hp, h, h4, decide_eq_true (p := (-4 : Int32) = -4) rfl, Bool.true_or, Bool.and_true, cond_true]
theorem nI_n4 {n : Nat} (h : n < 2 ^ 31) : nI n ≠ -4 := fun e => nI_pos h (by rw [e]; decide)
theorem tB_lt {lt : Int32 → Int32 → Bool} (ht : t < 8) (hp : p < 12) (hq : q < 12) (h : hs row (t * 12 + p) = true) (h4 : tBest row (nI t) lt p = nI q) (hl : lt (row (t * 12 + p)) (row (t * 12 + q)) = true) : tBest row (nI t) lt (p + 1) = nI p := by
  rw [tBest, tHas_nI ht hp, h, h4, tAt_nI ht hp, tAt_nI ht hq, hl, Bool.or_true, Bool.and_true, cond_true]
theorem tB_nlt {lt : Int32 → Int32 → Bool} (ht : t < 8) (hp : p < 12) (hq : q < 12) (h : hs row (t * 12 + p) = true) (h4 : tBest row (nI t) lt p = nI q) (hl : lt (row (t * 12 + p)) (row (t * 12 + q)) = false) : tBest row (nI t) lt (p + 1) = nI q := by
  rw [tBest, tHas_nI ht hp, h, h4, tAt_nI ht hp, tAt_nI ht hq, hl, decide_eq_false (nI_n4 (by omega)), Bool.or_false, Bool.and_false, cond_false]
theorem rv_leI (hr : RG row) (hp : p < 96) (hq : q < 96) (h1 : hs row p = true) (h2 : hs row q = true) : rv row p ≤ rv row q ↔ row p ≤ row q := by
  have a := rv_I hr hp h1
  have b := rv_I hr hq h2
  rw [Int32.le_iff_toInt_le, Int32.le_iff_toInt_le, a.1, b.1]
  omega
theorem rv_sub (hr : RG row) (hp : p < 96) (hq : q < 96) (h1 : hs row p = true) (h2 : hs row q = true) : rv row p - rv row q = row p - row q := by
  rw [rv_t h1, rv_t h2]; grind
theorem tAt_m4 : tAt row (nI t) (-4) = NONE := tAt_out (by unfold tIn; rw [decide_eq_false (p := ¬ (-4 : Int32) < 0) (by decide)]; simp)
/-- a tape's text begins with its digit -/
theorem wl_0 : ∀ n, (∀ i, i < n → hs row (t * 12 + i) = false) → wl row t n = []
  | 0, _ => rfl
  | n + 1, h => by
    rw [wl, wl_0 n (fun i hi => h i (by omega)), h n (by omega)]
    rfl
theorem wl_1 : ∀ n, wl row t n = [] ∧ (∀ i, i < n → hs row (t * 12 + i) = false) ∨ ∃ l, wl row t n = (48 + nI t) :: l
  | 0 => Or.inl ⟨rfl, fun i h => absurd h (by omega)⟩
  | n + 1 => by
    rcases wl_1 n with ⟨h1, h2⟩ | ⟨l, h⟩
    · cases hh : hs row (t * 12 + n) with
      | false => exact Or.inl ⟨by rw [wl, h1, hh]; rfl, fun i hi => by
          by_cases e : i = n
          · rw [e]; exact hh
          · exact h2 i (by omega)⟩
      | true => exact Or.inr ⟨_, by rw [wl, h1, hh]; rfl⟩
    · exact Or.inr ⟨_, by rw [wl, h]; rfl⟩
theorem sg_none (h : ∀ i, i < 12 → hs row (t * 12 + i) = false) : sgn (wl row t 12) 0 = -4 := by rw [wl_0 12 h]; rfl
theorem sg_some (ht : t < 8) (hq : q < 12) (hh : hs row (t * 12 + q) = true) : sgn (wl row t 12) 0 ≠ -4 := by
  rcases wl_1 (row := row) (t := t) 12 with ⟨-, h2⟩ | ⟨l, h⟩
  · rw [h2 q hq] at hh; cases hh
  · have hl := wl_len row t 12
    rw [h] at hl ⊢
    have e : sgn ((48 + nI t) :: l) 0 = 48 + nI t := by
      unfold sgn
      rw [decide_eq_true (show (0 : Int32) < nI ((48 + nI t) :: l).length from nI_lt (a := 0) (by simp) (by omega)), cond_true]
      rfl
    rw [e, show (48 : Int32) + nI t = nI (48 + t) from nI_add 48 t]
    exact nI_n4 (by omega)
theorem pW_T1 (ht : t < T) : 1 ≤ pW row (12 + t) 12 T := Nat.pos_of_ne_zero fun e => by
  have := cnt_0.mp e t ht
  rw [cB_self] at this
  cases this
theorem pF_b (hG : GR row T) (hπ : Pot row π) (hp : p < 12) (n : Nat) (hn : n ≤ 12) : 0 ≤ (pF row π p n).toInt ∧ (pF row π p n).toInt ≤ 19980 := by
  obtain ⟨h1, h2, h3⟩ := pF_mx row π p n
  rw [Int32.le_iff_toInt_le, tI_0] at h1
  refine ⟨h1, ?_⟩
  rcases h3 with h3 | ⟨k, k1, k2, k3⟩
  · rw [h3, tI_0]; decide
  · rw [k3]
    exact (far_b hG hπ (x := k) (y := p) (by omega) (by omega) (cB_sy ▸ k2)).2
theorem pM_b (hG : GR row T) (hπ : Pot row π) (n : Nat) (hn : n ≤ 12) : 0 ≤ (pM row π n).toInt ∧ (pM row π n).toInt ≤ 19980 := by
  obtain ⟨h1, h2, h3⟩ := pM_mx row π n
  rw [Int32.le_iff_toInt_le, tI_0] at h1
  refine ⟨h1, ?_⟩
  rcases h3 with h3 | ⟨p, k, p1, k1, k2, k3⟩
  · rw [h3, tI_0]; decide
  · rw [k3]
    exact (far_b hG hπ (x := k) (y := p) (by omega) (by omega) (cB_sy ▸ k2)).2
/-- places, there and back -/
theorem pi_sw {x y : Nat} (hG : GR row T) (hπ : Pot row π) (hx : x < 20) (hy : y < 20) (h : cB row x y = true) : (π x - π y).toInt = -(π y - π x).toInt := by
  have hb := far_b hG hπ hx hy h
  rw [show π x - π y = -(π y - π x) by grind, tI_neg (by omega) (by omega)]
theorem fV_back {x y : Nat} (h : cB row x y = true) : fV row π y x = 200000 - fV row π x y := by
  rw [fV_t h, fV_t (cB_sy ▸ h : cB row y x = true)]
  have : (200000 : Int32) = 100000 + 100000 := by decide
  grind
theorem bare_low (hp : p < 12) (hT : NT row T) (h : tAtP row (nI p) T = 0) : ∀ x, x < 20 → x ≠ p → cB row x p = false := fun x hx hne => by
  cases hc : cB row x p with
  | false => rfl
  | true =>
    exfalso
    have cl : Cl row (fun z => z = p) := fun j hj hh => by
      constructor
      · intro e; exfalso; omega
      · intro e
        exfalso
        have jT : j < T * 12 := Decidable.byContradiction fun q => hs_ne.mp hh (hT.2.2 j (by omega) hj)
        have h8 := hT.2.1
        have := cnt_0.mp h (j / 12) (by omega)
        rw [tHas_nI (by omega) hp, show j / 12 * 12 + p = j by omega, hh] at this
        cases this
    exact hne (cB_iff.mp (cB_sy ▸ hc : cB row p x = true) _ cl rfl)
theorem cnt_two {f g h : Nat → Bool} : ∀ n, (∀ i, i < n → (bif f i then 1 else 0) = (bif g i then 1 else 0) + (bif h i then 1 else 0)) → cnt f n = cnt g n + cnt h n
  | 0, _ => rfl
  | n + 1, e => by
    have ih := cnt_two (f := f) (g := g) (h := h) n (fun i hi => e i (by omega))
    have := e n (by omega)
    unfold cnt
    omega
theorem low_bare (hT : NT row T) : cnt (lowB row) 12 = tBare row T 12 + cnt (lowR row T) 12 := by
  refine cnt_two 12 (fun i hi => ?_)
  unfold lowR
  by_cases h : tAtP row (nI i) T = 0
  · have hl : lowB row i = true := by
      unfold lowB
      rw [decide_eq_true_eq]
      exact cnt_0.mpr (fun o ho => bare_low hi hT h o (by omega) (by omega))
    rw [hl, h]
    rfl
  · rw [decide_eq_false h, decide_eq_true (show 0 < tAtP row (nI i) T by omega), Bool.and_true, cond_false, Nat.zero_add]
theorem dc_all : ∀ k, k < 67 → Op.cmpValue (FP.dcmp (FP.ddiv (FP.i2d (nI k)) K66) (FP.ddiv (FP.i2d (nI k)) K66)) .l = 0 := by
  have h : (List.range 67).all (fun k => decide (Op.cmpValue (FP.dcmp (FP.ddiv (FP.i2d (nI k)) K66) (FP.ddiv (FP.i2d (nI k)) K66)) .l = 0)) = true := by decide +kernel
  intro k hk
  exact of_decide_eq_true (List.all_eq_true.mp h k (List.mem_range.mpr hk))
theorem lowB_iff (hp : p < 12) : lowB row p = decide (cnt (fun o => cB row o p) p = 0) := rfl
end YF
