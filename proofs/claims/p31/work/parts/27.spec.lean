/-! what the looks answer, by what hangs together and by places π that the readings tell -/
noncomputable def cB (row : Nat → Int32) (x y : Nat) : Bool := @decide (Cn row x y) (Classical.propDecidable _)
theorem cB_iff {row : Nat → Int32} {x y : Nat} : cB row x y = true ↔ Cn row x y := by
  unfold cB
  exact @decide_eq_true_iff _ (Classical.propDecidable _)
theorem cB_eq {row : Nat → Int32} {x y : Nat} {b : Bool} (h : b = true ↔ Cn row x y) : b = cB row x y := by
  cases hb : b <;> cases hc : cB row x y
  · rfl
  · exact absurd (h.mpr (cB_iff.mp hc)) (by rw [hb]; decide)
  · exact absurd (cB_iff.mpr (h.mp hb)) (by rw [hc]; decide)
  · rfl
theorem cB_sy {row : Nat → Int32} {x y : Nat} : cB row x y = cB row y x := cB_eq ⟨fun h => (cB_iff.mp h).sy, fun h => cB_iff.mpr h.sy⟩
noncomputable def fV (row π : Nat → Int32) (x y : Nat) : Int32 := bif cB row x y then 100000 + (π y - π x) else -4
noncomputable def rsV (row π : Nat → Int32) (a b : Nat) (x : Int32) : Int32 := bif hs row (a * 12 + b) then 1 else (bif cB row (12 + a) b && !decide (π b - π (12 + a) = x) then 2 else 0)
noncomputable def pW (row : Nat → Int32) (x o n : Nat) : Nat := cnt (fun i => cB row x (o + i)) n
noncomputable def pA (row π : Nat → Int32) (p n : Nat) : Nat := cnt (fun i => cB row p i && (decide (π i - π p < 0) || (decide (π i - π p = 0) && decide (i < p)))) n
noncomputable def pF (row π : Nat → Int32) (p : Nat) : Nat → Int32
  | 0 => 0
  | i + 1 => bif cB row p i && decide (pF row π p i < π p - π i) then π p - π i else pF row π p i
noncomputable def pM (row π : Nat → Int32) : Nat → Int32
  | 0 => 0
  | i + 1 => if pM row π i < pF row π i 12 then pF row π i 12 else pM row π i
noncomputable def lowB (row : Nat → Int32) (p : Nat) : Bool := decide (cnt (fun o => cB row o p) p = 0)
noncomputable def lowR (row : Nat → Int32) (T p : Nat) : Bool := lowB row p && decide (0 < tAtP row (nI p) T)
noncomputable def nP (row : Nat → Int32) (t p : Nat) : Nat := bif cB row (12 + t) p then 0 else pW row (12 + t) 0 12 * pW row p 0 12
/-- the best reading among the first m: which, how much -/
noncomputable def bR (row : Nat → Int32) : Nat → Nat × Nat
  | 0 => (0, 0)
  | m + 1 => if (bR row m).2 < nP row (m / 12) (m % 12) then (m, nP row (m / 12) (m % 12)) else bR row m
noncomputable def kE (row : Nat → Int32) : Nat → Nat
  | 0 => 0
  | i + 1 => kE row i + (pW row i 0 12 - 1)
section JSV
variable {row π f d : Nat → Int32}
theorem js_c (hJ : JS row f d) {x y : Nat} (hx : x < 20) (hy : y < 20) : decide (f x = f y) = cB row x y := cB_eq (by rw [decide_eq_true_eq]; exact hJ.1 x y hx hy)
theorem js_d (hJ : JS row f d) (hπ : Pot row π) {x y : Nat} (hx : x < 20) (hy : y < 20) (h : f x = f y) : d y - d x = π y - π x := hJ.2 π hπ x y hx hy ((hJ.1 x y hx hy).mp h)
theorem js_f (hJ : JS row f d) (hπ : Pot row π) {x y : Nat} (hx : x < 20) (hy : y < 20) : (if f x = f y then 100000 + (d y - d x) else -4) = fV row π x y := by
  unfold fV
  rw [← js_c hJ hx hy]
  by_cases h : f x = f y
  · rw [if_pos h, decide_eq_true h, cond_true, js_d hJ hπ hx hy h]
  · rw [if_neg h, decide_eq_false h, cond_false]
theorem js_W (hJ : JS row f d) {x o n : Nat} (hx : x < 20) (hn : o + n ≤ 20) : gWith f x o n = pW row x o n := cnt_congr (fun i hi => js_c hJ hx (by omega))
theorem js_A (hJ : JS row f d) (hπ : Pot row π) {p n : Nat} (hp : p < 12) (hn : n ≤ 12) : gAhead f d p n = pA row π p n := by
  refine cnt_congr (fun i hi => ?_)
  rw [← js_c hJ (show p < 20 by omega) (show i < 20 by omega)]
  by_cases h : f p = f i
  · rw [js_d hJ hπ (by omega) (by omega) h]
  · rw [decide_eq_false h]; rfl
theorem js_F (hJ : JS row f d) (hπ : Pot row π) {p : Nat} (hp : p < 12) : ∀ n, n ≤ 12 → gFar f d p n = pF row π p n
  | 0, _ => rfl
  | n + 1, hn => by
    have ih := js_F hJ hπ hp n (by omega)
    rw [gFar, pF, ih, ← js_c hJ (show p < 20 by omega) (show n < 20 by omega)]
    by_cases h : f p = f n
    · have e := js_d hJ hπ (x := n) (y := p) (by omega) (by omega) h.symm
      rw [e, decide_eq_true h, Bool.true_and]
      by_cases h2 : pF row π p n < π p - π n
      · rw [if_pos ⟨h, h2⟩, decide_eq_true h2, cond_true]
      · rw [if_neg (fun q => h2 q.2), decide_eq_false h2, cond_false]
    · rw [if_neg (fun q => h q.1), decide_eq_false h, Bool.false_and, cond_false]
theorem js_M (hJ : JS row f d) (hπ : Pot row π) : ∀ n, n ≤ 12 → gMost f d n = pM row π n
  | 0, _ => rfl
  | n + 1, hn => by rw [gMost, pM, js_M hJ hπ n (by omega), js_F hJ hπ (show n < 12 by omega) 12 (Nat.le_refl 12)]
theorem js_L (hJ : JS row f d) {p : Nat} (hp : p < 12) : gLow f p = lowB row p := by
  unfold gLow lowB
  rw [cnt_congr (fun i hi => js_c hJ (show i < 20 by omega) (show p < 20 by omega))]
theorem js_N (hJ : JS row f d) {t p : Nat} (ht : t < 8) (hp : p < 12) : gNew f t p = nP row t p := by
  unfold gNew nP
  rw [← js_c hJ (show 12 + t < 20 by omega) (show p < 20 by omega), js_W hJ (by omega) (by omega), js_W hJ (by omega) (by omega)]
  by_cases h : f (12 + t) = f p
  · rw [if_pos h, decide_eq_true h, cond_true]
  · rw [if_neg h, decide_eq_false h, cond_false]
theorem RS_V {a b : Nat} {x r : Int32} (hπ : Pot row π) (h : RS row a b x r) : r = rsV row π a b x := by
  unfold rsV
  cases hb : hs row (a * 12 + b) with
  | true => rw [cond_true]; exact h.1 hb
  | false =>
    rw [cond_false]
    obtain ⟨h1, h2⟩ := h.2 hb
    cases hc : cB row (12 + a) b with
    | false => rw [Bool.false_and, cond_false]; exact h1 (fun q => by rw [cB_iff.mpr q] at hc; cases hc)
    | true =>
      obtain ⟨g1, g2⟩ := h2 (cB_iff.mp hc) π hπ
      by_cases e : π b - π (12 + a) = x
      · rw [decide_eq_true e]; exact g1 e
      · rw [decide_eq_false e]; exact g2 e
end JSV
/-- scratch cells of the class -/
def scr : List Nat := [14, 15, 16, 17, 18, 19, 21, 22, 23]
def LK (S S1 : Nat → Nat → Int32) : Prop := ∀ i, i ∉ scr → S1 i = S i
theorem LK.rf {S : Nat → Nat → Int32} : LK S S := fun _ _ => rfl
theorem LK.tr {S S1 S2 : Nat → Nat → Int32} (h1 : LK S S1) (h2 : LK S1 S2) : LK S S2 := fun i hi => (h2 i hi).trans (h1 i hi)
theorem LK_g {S S1 : Nat → Nat → Int32} (h : gFr S S1) : LK S S1 := fun i hi => h i (fun e => hi (by rw [e]; decide)) (fun e => hi (by rw [e]; decide))
theorem LK_w {S S1 : Nat → Nat → Int32} (h : wFr S S1) : LK S S1 := fun i hi => h i (fun e => hi (by rw [e]; decide)) (fun e => hi (by rw [e]; decide)) (fun e => hi (by rw [e]; decide)) (fun e => hi (by rw [e]; decide))
theorem LK_u {S : Nat → Nat → Int32} {q : Nat} {f : Nat → Int32} (hq : q ∈ scr) : LK S (u2 S q f) := fun i hi => u2_ne (fun e => hi (by rw [e]; exact hq))
theorem LK_j {S : Nat → Nat → Int32} {f d : Nat → Int32} : LK S (u2 (u2 S 14 f) 15 d) := (LK_u (by decide)).tr (LK_u (by decide))
theorem apd_lt {f : Nat → Int32} : ∀ (l : List Int32) (n i : Nat), i < n → apd f n l i = f i
  | [], _, _, _ => rfl
  | x :: l, n, i, h => by
    show apd (upd f n x) (n + 1) l i = f i
    rw [apd_lt l (n + 1) i (by omega), upd_ne (by omega)]
theorem apd_at {f : Nat → Int32} : ∀ (l : List Int32) (n i : Nat), i < l.length → apd f n l (n + i) = l.getD i 0
  | [], _, i, h => absurd h (Nat.not_lt_zero i)
  | x :: l, n, 0, _ => by
    show apd (upd f n x) (n + 1) l (n + 0) = x
    rw [apd_lt l (n + 1) (n + 0) (by omega)]
    exact upd_same
  | x :: l, n, i + 1, h => by
    show apd (upd f n x) (n + 1) l (n + (i + 1)) = (x :: l).getD (i + 1) 0
    rw [show n + (i + 1) = n + 1 + i by omega, apd_at l (n + 1) i (by simpa using h)]
    rfl
/-- a character of a text -/
def sgn (l : List Int32) (place : Int32) : Int32 := bif decide (place < nI l.length) then l.getD place.toNatClampNeg 0 else -4
theorem ddiv_ok : ∀ k, k < 67 → vf_n64 (FP.ddiv (FP.i2d (nI k)) K66) := by
  have h : (List.range 67).all (fun k => decide (FP.ddiv (FP.i2d (nI k)) K66 &&& 0x7fffffffffffffff ≤ 0x7ff0000000000000)) = true := by decide +kernel
  intro k hk
  exact show FP.ddiv (FP.i2d (nI k)) K66 &&& 0x7fffffffffffffff ≤ 0x7ff0000000000000 from of_decide_eq_true (List.all_eq_true.mp h k (List.mem_range.mpr hk))
theorem pW_self {row : Nat → Int32} {p : Nat} (hp : p < 12) : 1 ≤ pW row p 0 12 := by
  refine Decidable.byContradiction fun q => ?_
  have := cnt_0.mp (show cnt (fun i => cB row p (0 + i)) 12 = 0 by unfold pW at q; omega) p hp
  rw [Nat.zero_add, cB_iff.mpr Cn.rf] at this
  cases this
theorem pW_le {row : Nat → Int32} {p n : Nat} : pW row p 0 n ≤ n := cnt_le _ _
theorem kE_le (row : Nat → Int32) : ∀ n, kE row n ≤ 11 * n
  | 0 => Nat.le_refl 0
  | n + 1 => by
    have := kE_le row n
    have := pW_le (row := row) (p := n) (n := 12)
    rw [kE]
    omega
theorem nP_le (row : Nat → Int32) (t p : Nat) : nP row t p ≤ 144 := by
  unfold nP
  cases cB row (12 + t) p with
  | true => rw [cond_true]; omega
  | false => rw [cond_false]; exact Nat.mul_le_mul (pW_le (n := 12)) (pW_le (n := 12))
theorem bR_le (row : Nat → Int32) : ∀ m, (bR row m).2 ≤ 144
  | 0 => Nat.zero_le _
  | m + 1 => by
    rw [bR]
    split
    · exact nP_le _ _ _
    · exact bR_le row m
theorem bR_lt (row : Nat → Int32) : ∀ m, (bR row m).1 ≤ m
  | 0 => Nat.le_refl 0
  | m + 1 => by
    have := bR_lt row m
    rw [bR]
    split
    · show m ≤ m + 1; omega
    · omega
