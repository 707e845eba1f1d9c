/-! pure rows that served whole: ranges, counts, what the deeds keep -/
def en (x : Int32) : Int32 := if x = NONE then 0 else x + 1000
def RG (row : Nat → Int32) : Prop := ∀ j, j < 96 → hs row j = true → isNb (row j) = true
theorem isNb_iff {x : Int32} : isNb x = true ↔ -999 ≤ x.toInt ∧ x.toInt ≤ 999 := by
  have h1 : (-999 : Int32).toInt = -999 := by decide
  have h2 : (999 : Int32).toInt = 999 := by decide
  unfold isNb
  rw [Bool.and_eq_true, decide_eq_true_eq, decide_eq_true_eq, Int32.not_lt, Int32.not_lt, Int32.le_iff_toInt_le, Int32.le_iff_toInt_le, h1, h2]
theorem NONE_nb : isNb NONE = false := by decide
theorem hs_ne {row : Nat → Int32} {j : Nat} : hs row j = true ↔ row j ≠ NONE := by simp [hs]
theorem hs_up2 {row : Nat → Int32} {j i : Nat} {v : Int32} : hs (upd row j v) i = if i = j then !decide (v = NONE) else hs row i := by
  unfold hs
  by_cases h : i = j
  · rw [if_pos h, h, upd_same]
  · rw [if_neg h, upd_ne h]
def mIn (v l m : Int32) : Bool := decide (¬ v < l) && decide (¬ m < v)
def jB (row m : Nat → Int32) (t p : Nat) : Bool := hs row (t * 12 + p) && !decide (m (12 + t) = m p)
def jM (m : Nat → Int32) (t p : Nat) : Nat → Int32 := upd (upd m (12 + t) 1) p 1
def jA (row m A : Nat → Int32) (t p : Nat) : Nat → Int32 := if m (12 + t) = 0 then upd A (12 + t) (A p - row (t * 12 + p)) else upd A p (A (12 + t) + row (t * 12 + p))
def SPI (row : Nat → Int32) (a N : Nat) (m A : Nat → Int32) : Prop := (∀ x, x < 20 → m x = 0 ∨ m x = 1) ∧ m a = 1 ∧ cnt (fun x => decide (m x = 1)) 20 = N ∧ ∀ x, x < 20 → m x = 1 → Cn row a x ∧ (∀ π, Pot row π → A x = π x - π a) ∧ -(999 * (N : Int)) ≤ (A x).toInt ∧ (A x).toInt ≤ 999 * (N : Int)
def MS (row : Nat → Int32) (a : Nat) (m A : Nat → Int32) : Prop := (∀ x, x < 20 → m x = b2i (cB row a x)) ∧ ∀ x, x < 20 → cB row a x = true → (∀ π, Pot row π → A x = π x - π a) ∧ -19980 ≤ (A x).toInt ∧ (A x).toInt ≤ 19980
theorem Cn_edge {row : Nat → Int32} {t p : Nat} (ht : t < 8) (hp : p < 12) (h : hs row (t * 12 + p) = true) : Cn row (12 + t) p := fun A c hA => by
  have := (c (t * 12 + p) (by omega) h).mp
  rw [show (t * 12 + p) / 12 = t by omega, show (t * 12 + p) % 12 = p by omega] at this
  exact this hA
theorem Pot_edge {row π : Nat → Int32} {t p : Nat} (ht : t < 8) (hp : p < 12) (h : hs row (t * 12 + p) = true) (hπ : Pot row π) : row (t * 12 + p) = π p - π (12 + t) := by
  have := hπ (t * 12 + p) (by omega) h
  rw [show (t * 12 + p) / 12 = t by omega, show (t * 12 + p) % 12 = p by omega] at this
  exact this
theorem SPI_step {row m A : Nat → Int32} {a N t p : Nat} (h : SPI row a N m A) (hN : N ≤ 20) (hr : RG row) (hj : jB row m t p = true) (ht : t < 8) (hp : p < 12) : SPI row a (N + 1) (jM m t p) (jA row m A t p) := by
  obtain ⟨h1, h2, h3, h4⟩ := h
  unfold jB at hj
  rw [Bool.and_eq_true, Bool.not_eq_true', decide_eq_false_iff_not] at hj
  obtain ⟨hh, hne⟩ := hj
  have hb := isNb_iff.mp (hr _ (by omega) hh)
  have key : ∀ (x y : Nat) (v : Int32), x < 20 → y < 20 → m x = 1 → m y = 0 → Cn row x y → (∀ π, Pot row π → v = A x + (π y - π x)) → (v.toInt = (A x).toInt + (row (t * 12 + p)).toInt ∨ v.toInt = (A x).toInt - (row (t * 12 + p)).toInt) → SPI row a (N + 1) (upd m y 1) (upd A y v) := by
    intro x y v hx hy mx my hc hv hi
    have xy : x ≠ y := fun e => by rw [e, my] at mx; cases mx
    obtain ⟨c1, c2, c3, c4⟩ := h4 x hx mx
    refine ⟨fun z hz => ?_, ?_, ?_, fun z hz hm => ?_⟩
    · by_cases e : z = y
      · rw [e, upd_same]; exact Or.inr rfl
      · rw [upd_ne e]; exact h1 z hz
    · rw [upd_ne (fun e => by rw [e, my] at h2; cases h2)]; exact h2
    · rw [← h3]
      exact cnt_up (x := y) (by show decide (m y = 1) = false; rw [my]; rfl) (by show decide (upd m y 1 y = 1) = true; rw [upd_same]; rfl) (fun z hz => by show decide (upd m y 1 z = 1) = decide (m z = 1); rw [upd_ne hz]) hy
    · by_cases e : z = y
      · rw [e, upd_same]
        refine ⟨c1.tr hc, fun π hπ => ?_, ?_, ?_⟩
        · rw [hv π hπ, c2 π hπ]; grind
        · push_cast; omega
        · push_cast; omega
      · rw [upd_ne e] at hm ⊢
        obtain ⟨d1, d2, d3, d4⟩ := h4 z hz hm
        exact ⟨d1, d2, by push_cast; omega, by push_cast; omega⟩
  have hd := Cn_edge ht hp hh
  obtain n0 | n1 := h1 (12 + t) (by omega)
  · have p1 : m p = 1 := by
      obtain e | e := h1 p (by omega)
      · exact absurd (by rw [n0, e]) hne
      · exact e
    have e : jM m t p = upd m (12 + t) 1 := by
      funext z
      unfold jM
      by_cases ez : z = p
      · rw [ez, upd_same, upd_ne (by omega), p1]
      · rw [upd_ne ez]
    rw [e, jA, if_pos n0]
    obtain ⟨c1, c2, c3, c4⟩ := h4 p (by omega) p1
    refine key p (12 + t) _ (by omega) (by omega) p1 n0 hd.sy (fun π hπ => by rw [Pot_edge ht hp hh hπ]; grind) (Or.inr ?_)
    rw [Int32.toInt_sub]
    exact Int.bmod_eq_of_le (by omega) (by omega)
  · have p0 : m p = 0 := by
      obtain e | e := h1 p (by omega)
      · exact e
      · exact absurd (by rw [n1, e]) hne
    have e : jM m t p = upd m p 1 := by
      unfold jM
      rw [show upd m (12 + t) 1 = m from by funext z; by_cases ez : z = 12 + t; rw [ez, upd_same, n1]; exact upd_ne ez]
    rw [e, jA, if_neg (by rw [n1]; decide)]
    obtain ⟨c1, c2, c3, c4⟩ := h4 (12 + t) (by omega) n1
    refine key (12 + t) p _ (by omega) (by omega) n1 p0 hd (fun π hπ => by rw [Pot_edge ht hp hh hπ]) (Or.inl ?_)
    rw [Int32.toInt_add]
    exact Int.bmod_eq_of_le (by omega) (by omega)
theorem SPI_end {row m A : Nat → Int32} {a N T : Nat} (h : SPI row a N m A) (hN : N ≤ 20) (hT : NT row T) (hx : ∀ t p, t < T → p < 12 → jB row m t p = false) : MS row a m A := by
  obtain ⟨h1, h2, h3, h4⟩ := h
  have cl : Cl row (fun x => m x = 1) := fun j hj hh => by
    have jT : j < T * 12 := Decidable.byContradiction fun q => by
      have := hT.2.2 j (by omega) hj
      exact hs_ne.mp hh this
    have := hx (j / 12) (j % 12) (by omega) (by omega)
    unfold jB at this
    rw [show j / 12 * 12 + j % 12 = j by omega, hh, Bool.true_and, Bool.not_eq_false', decide_eq_true_eq] at this
    show m _ = 1 ↔ m _ = 1
    rw [this]
  have iff : ∀ x, x < 20 → (m x = 1 ↔ Cn row a x) := fun x hx => ⟨fun h => (h4 x hx h).1, fun h => h _ cl h2⟩
  refine ⟨fun x hx => ?_, fun x hx hc => ?_⟩
  · cases hc : cB row a x with
    | true => exact (iff x hx).mpr (cB_iff.mp hc)
    | false =>
      obtain e | e := h1 x hx
      · exact e
      · rw [cB_iff.mpr ((iff x hx).mp e)] at hc; cases hc
  · obtain ⟨-, d2, d3, d4⟩ := h4 x hx ((iff x hx).mpr (cB_iff.mp hc))
    exact ⟨d2, by omega, by omega⟩
section
variable (S : Nat → Nat → Int32) (R : Nat → Nat) {row : Nat → Int32} {T : Nat} {π : Nat → Int32}
/-- no tape beyond T hangs together with another node -/
theorem cB_far {t i : Nat} (hT : NT row T) (ht : t ≠ i) (hi : T ≤ i) (hi8 : i < 8) : cB row (12 + t) (12 + i) = false := by
  cases hc : cB row (12 + t) (12 + i) with
  | false => rfl
  | true =>
    refine absurd (cB_iff.mp hc (fun x => x ≠ 12 + i) (fun j hj hh => ?_) (by omega)) (fun q => q rfl)
    have : j / 12 ≠ i := fun e => hs_ne.mp hh (hT.2.2 j (by omega) hj)
    exact ⟨fun _ => by omega, fun _ => by omega⟩
end
section
variable (S : Nat → Nat → Int32) (R : Nat → Nat) {row : Nat → Int32} {T : Nat} {π : Nat → Int32}
theorem cnt_cut {f : Nat → Bool} {a : Nat} : ∀ b, (∀ i, a ≤ i → i < a + b → f i = false) → cnt f (a + b) = cnt f a
  | 0, _ => rfl
  | b + 1, h => by rw [← Nat.add_assoc, cnt_f (h (a + b) (by omega) (by omega))]; exact cnt_cut b (fun i h1 h2 => h i h1 (by omega))
end
/-- M is the greatest of 0 and the ways that A tells -/
def MX (A : Int32 → Prop) (M : Int32) : Prop := 0 ≤ M ∧ (∀ v, A v → v ≤ M) ∧ (M = 0 ∨ A M)
theorem MX_eq {A B : Int32 → Prop} {M N : Int32} (h : ∀ v, A v ↔ B v) (h1 : MX A M) (h2 : MX B N) : M = N := by
  obtain ⟨a1, a2, a3⟩ := h1
  obtain ⟨b1, b2, b3⟩ := h2
  refine Int32.le_antisymm ?_ ?_
  · obtain e | e := a3
    · rw [e]; exact b1
    · exact b2 _ ((h _).mp e)
  · obtain e | e := b3
    · rw [e]; exact a1
    · exact a2 _ ((h _).mpr e)
theorem MX_s {A B : Int32 → Prop} {M v : Int32} {c : Bool} (hB : ∀ x, B x ↔ A x ∨ (c = true ∧ x = v)) (h : MX A M) : MX B (bif c && decide (M < v) then v else M) := by
  obtain ⟨a1, a2, a3⟩ := h
  cases hc : c with
  | false =>
    rw [Bool.false_and, cond_false]
    refine ⟨a1, fun x hx => ?_, a3.imp id (fun q => (hB M).mpr (Or.inl q))⟩
    obtain q | ⟨q, -⟩ := (hB x).mp hx
    · exact a2 x q
    · rw [hc] at q; cases q
  | true =>
    rw [Bool.true_and]
    by_cases h1 : M < v
    · rw [decide_eq_true h1, cond_true]
      refine ⟨Int32.le_trans a1 (Int32.le_of_lt h1), fun x hx => ?_, Or.inr ((hB v).mpr (Or.inr ⟨hc, rfl⟩))⟩
      obtain q | ⟨-, q⟩ := (hB x).mp hx
      · exact Int32.le_trans (a2 x q) (Int32.le_of_lt h1)
      · rw [q]; exact Int32.le_refl _
    · rw [decide_eq_false h1, cond_false]
      refine ⟨a1, fun x hx => ?_, a3.imp id (fun q => (hB M).mpr (Or.inl q))⟩
      obtain q | ⟨-, q⟩ := (hB x).mp hx
      · exact a2 x q
      · rw [q]; exact Int32.not_lt.mp h1
theorem pF_mx (row π : Nat → Int32) (p : Nat) : ∀ n, MX (fun v => ∃ k, k < n ∧ cB row p k = true ∧ v = π p - π k) (pF row π p n)
  | 0 => ⟨Int32.le_refl _, fun v ⟨k, h, _⟩ => absurd h (Nat.not_lt_zero k), Or.inl rfl⟩
  | n + 1 => by
    rw [pF]
    refine MX_s (fun x => ⟨fun ⟨k, h1, h2, h3⟩ => ?_, ?_⟩) (pF_mx row π p n)
    · by_cases e : k = n
      · subst e; exact Or.inr ⟨h2, h3⟩
      · exact Or.inl ⟨k, by omega, h2, h3⟩
    · rintro (⟨k, h1, h2, h3⟩ | ⟨h2, h3⟩)
      · exact ⟨k, by omega, h2, h3⟩
      · exact ⟨n, by omega, h2, h3⟩
theorem pM_mx (row π : Nat → Int32) : ∀ n, MX (fun v => ∃ p k, p < n ∧ k < 12 ∧ cB row p k = true ∧ v = π p - π k) (pM row π n)
  | 0 => ⟨Int32.le_refl _, fun v ⟨p, k, h, _⟩ => absurd h (Nat.not_lt_zero p), Or.inl rfl⟩
  | n + 1 => by
    obtain ⟨a1, a2, a3⟩ := pM_mx row π n
    obtain ⟨b1, b2, b3⟩ := pF_mx row π n 12
    rw [pM]
    by_cases h : pM row π n < pF row π n 12
    · rw [if_pos h]
      refine ⟨b1, fun v ⟨p, k, h1, h2, h3, h4⟩ => ?_, b3.imp id fun ⟨k, h1, h2, h3⟩ => ⟨n, k, by omega, h1, h2, h3⟩⟩
      by_cases e : p = n
      · subst e; exact b2 v ⟨k, h2, h3, h4⟩
      · exact Int32.le_trans (a2 v ⟨p, k, by omega, h2, h3, h4⟩) (Int32.le_of_lt h)
    · rw [if_neg h]
      refine ⟨a1, fun v ⟨p, k, h1, h2, h3, h4⟩ => ?_, a3.imp id fun ⟨p, k, h1, h2, h3, h4⟩ => ⟨p, k, by omega, h2, h3, h4⟩⟩
      by_cases e : p = n
      · subst e; exact Int32.le_trans (b2 v ⟨k, h2, h3, h4⟩) (Int32.not_lt.mp h)
      · exact a2 v ⟨p, k, by omega, h2, h3, h4⟩
theorem cnt_add (f : Nat → Bool) (a : Nat) : ∀ b, cnt f (a + b) = cnt f a + cnt (fun i => f (a + i)) b
  | 0 => rfl
  | b + 1 => by
    have ih := cnt_add f a b
    cases h : f (a + b) with
    | true => rw [← Nat.add_assoc, cnt_t h, cnt_t (f := fun i => f (a + i)) h, ih]; omega
    | false => rw [← Nat.add_assoc, cnt_f h, cnt_f (f := fun i => f (a + i)) h, ih]
theorem tAll_c {row : Nat → Int32} : ∀ n, n ≤ 8 → tAll row n = cnt (hs row) (n * 12)
  | 0, _ => rfl
  | n + 1, h => by
    have ih := tAll_c (row := row) n (by omega)
    have e : tAll row (n + 1) = tAll row n + tOf row (nI n) 12 := rfl
    rw [e, ih, show (n + 1) * 12 = n * 12 + 12 by omega, cnt_add]
    exact congrArg _ (cnt_congr (fun i hi => tHas_nI (by omega) hi))
theorem tAll_cnt {row : Nat → Int32} {T : Nat} (hT : NT row T) : tAll row T = cnt (hs row) 96 := by
  have hT8 := hT.2.1
  rw [tAll_c T hT8]
  have := cnt_cut (f := hs row) (a := T * 12) (96 - T * 12) (fun i h1 h2 => by
    cases h : hs row i with
    | false => rfl
    | true => exact absurd (hT.2.2 i h1 (by omega)) (hs_ne.mp h))
  rw [show T * 12 + (96 - T * 12) = 96 by omega] at this
  exact this.symm
theorem low_ex {row : Nat → Int32} {T j : Nat} (hT : NT row T) (hj : j < 96) (hh : hs row j = true) : ∃ p, p < 12 ∧ lowR row T p = true := by
  have hT8 := hT.2.1
  have at1 : ∀ i, i < 96 → hs row i = true → 0 < tAtP row (nI (i % 12)) T := fun i hi h => by
    refine Nat.pos_of_ne_zero (fun z => ?_)
    have iT : i < T * 12 := Decidable.byContradiction fun q => hs_ne.mp h (hT.2.2 i (by omega) hi)
    have := cnt_0.mp z (i / 12) (by omega)
    rw [tHas_nI (by omega) (by omega), show i / 12 * 12 + i % 12 = i by omega, h] at this
    cases this
  have main : ∀ p, p < 12 → cB row p (j % 12) = true → ∃ p, p < 12 ∧ lowR row T p = true := by
    intro p
    induction p using Nat.strongRecOn with
    | ind p ih =>
      intro hp hc
      by_cases z : cnt (fun o => cB row o p) p = 0
      · refine ⟨p, hp, ?_⟩
        unfold lowR lowB
        rw [decide_eq_true z, Bool.true_and, decide_eq_true_eq]
        by_cases e : p = j % 12
        · rw [e]; exact at1 j hj hh
        · refine Decidable.byContradiction fun q => ?_
          have no : ∀ i, i < 96 → hs row i = true → i % 12 ≠ p := fun i hi h ei => q (by have := at1 i hi h; rw [ei] at this; exact this)
          refine absurd (cB_iff.mp hc (fun x => x = p) (fun i hi h => ?_) rfl) (fun q => e q.symm)
          have := no i hi h
          exact ⟨fun _ => by omega, fun _ => by omega⟩
      · have : ¬ ∀ i, i < p → cB row i p = false := fun q => z (cnt_0.mpr q)
        have : ∃ i, i < p ∧ cB row i p = true := Classical.byContradiction fun q => this (fun i hi => by
          cases h : cB row i p with
          | false => rfl
          | true => exact absurd ⟨i, hi, h⟩ q)
        obtain ⟨i, hi, h⟩ := this
        exact ih i hi (by omega) (cB_iff.mpr ((cB_iff.mp h).tr (cB_iff.mp hc)))
  exact main (j % 12) (by omega) (cB_iff.mpr Cn.rf)
theorem low_no {row : Nat → Int32} {T : Nat} (hT : NT row T) (h : cnt (hs row) 96 = 0) : cnt (lowR row T) 12 = 0 := by
  have hT8 := hT.2.1
  refine cnt_0.mpr (fun p hp => ?_)
  have : tAtP row (nI p) T = 0 := cnt_0.mpr (fun i hi => by rw [tHas_nI (by omega) hp]; exact cnt_0.mp h _ (by omega))
  unfold lowR
  rw [this]
  simp
theorem neg_b {x : Int32} (h1 : -20000 ≤ x.toInt) (h2 : x.toInt ≤ 20000) : (-x).toInt = -x.toInt := by
  rw [Int32.toInt_neg]
  exact Int.bmod_eq_of_le (by omega) (by omega)
theorem tBest_ix {row : Nat → Int32} {t : Nat} (ht : t < 8) (lt : Int32 → Int32 → Bool) : ∀ n, n ≤ 12 → tBest row (nI t) lt n = -4 ∧ (∀ i, i < n → hs row (t * 12 + i) = false) ∨ ∃ q, q < n ∧ hs row (t * 12 + q) = true ∧ tBest row (nI t) lt n = nI q
  | 0, _ => Or.inl ⟨rfl, fun i h => absurd h (Nat.not_lt_zero i)⟩
  | n + 1, h => by
    have ih := tBest_ix (row := row) ht lt n (by omega)
    rw [tBest, tHas_nI ht (show n < 12 by omega)]
    cases hh : hs row (t * 12 + n) with
    | false =>
      rw [Bool.false_and, cond_false]
      obtain ⟨e, h2⟩ | ⟨q, h1, h2, h3⟩ := ih
      · refine Or.inl ⟨e, fun i hi => ?_⟩
        by_cases ei : i = n
        · rw [ei]; exact hh
        · exact h2 i (by omega)
      · exact Or.inr ⟨q, by omega, h2, h3⟩
    | true =>
      rw [Bool.true_and]
      obtain ⟨e, h2⟩ | ⟨q, h1, h2, h3⟩ := ih
      · rw [e]
        exact Or.inr ⟨n, by omega, hh, rfl⟩
      · cases decide (tBest row (nI t) lt n = -4) || lt (tAt row (nI t) (nI n)) (tAt row (nI t) (tBest row (nI t) lt n)) with
        | true => exact Or.inr ⟨n, by omega, hh, rfl⟩
        | false => exact Or.inr ⟨q, by omega, h2, h3⟩
/-- what the reading of a number answers, and the table then -/
noncomputable def enR (row π : Nat → Int32) (a p : Nat) (x : Int32) : Nat → Int32 := if rsV row π a p x = 0 then upd (upd row (a * 12 + p) x) 97 (row 97 + 1) else upd row 98 (row 98 + 1)
noncomputable def enA (row π : Nat → Int32) (T a p : Nat) (x : Int32) : Int32 := if rsV row π a p x = 0 then 10 + nI (tAll (enR row π a p x) T) else rsV row π a p x
theorem EN_det {row row' π : Nat → Int32} {T a p : Nat} {x r : Int32} (hπ : Pot row π) (h : EN row T a p x r row') : r = enA row π T a p x ∧ row' = enR row π a p x := by
  obtain ⟨rs, h1, h2, h3⟩ := h
  have e := RS_V hπ h1
  unfold enA enR
  rw [← e]
  by_cases z : rs = 0
  · rw [if_pos z, if_pos z]
    obtain ⟨q1, q2⟩ := h3 z
    rw [q2, q1]
    exact ⟨rfl, rfl⟩
  · rw [if_neg z, if_neg z]
    exact h2 z
theorem rsV_cases {row π : Nat → Int32} {a p : Nat} {x : Int32} : rsV row π a p x = 0 ∨ rsV row π a p x = 1 ∨ rsV row π a p x = 2 := by
  unfold rsV
  cases hs row (a * 12 + p)
  · cases cB row (12 + a) p && !decide (π p - π (12 + a) = x)
    · exact Or.inl rfl
    · exact Or.inr (Or.inr rfl)
  · exact Or.inr (Or.inl rfl)
theorem tRem_at {row : Nat → Int32} {a j : Nat} (h : j ≠ 96) : tRem row a j = if a * 12 ≤ j ∧ j < 96 then (if j < 84 then row (j + 12) else NONE) else row j := by
  unfold tRem rmR
  rw [upd_ne h]
def ccB (row : Nat → Int32) (a : Nat) (x : Int32) (p : Nat) : Bool := hs row (a * 12 + p) && !decide (row (a * 12 + p) - x ≤ 999)
theorem tBest_gt {row : Nat → Int32} {t : Nat} (ht : t < 8) : ∀ n, n ≤ 12 → ∀ q, q < n → tBest row (nI t) gtI n = nI q → ∀ i, i < n → hs row (t * 12 + i) = true → row (t * 12 + i) ≤ row (t * 12 + q)
  | 0, _, _, h, _, _, _, _ => absurd h (Nat.not_lt_zero _)
  | n + 1, hn, q, hq, e, i, hi, hh => by
    have hx := tBest_ix (row := row) ht gtI n (by omega)
    have ih := tBest_gt (row := row) ht n (by omega)
    rw [tBest, tHas_nI ht (show n < 12 by omega)] at e
    obtain ⟨e4, no⟩ | ⟨r, r1, r2, r3⟩ := hx
    · have ein : i = n := Decidable.byContradiction fun z => by rw [no i (by omega)] at hh; cases hh
      subst ein
      rw [hh, e4] at e
      have : i = q := (nI_eq (show i < 2 ^ 31 by omega) (show q < 2 ^ 31 by omega)).mp e
      rw [this]
      exact Int32.le_refl _
    · have r4 : decide (nI r = -4) = false := decide_eq_false (nI_m4 (by omega))
      rw [r3, r4, Bool.false_or, tAt_nI ht (show n < 12 by omega), tAt_nI ht (show r < 12 by omega)] at e
      cases hc : hs row (t * 12 + n) && gtI (row (t * 12 + n)) (row (t * 12 + r)) with
      | true =>
        rw [hc, cond_true] at e
        have en : n = q := (nI_eq (show n < 2 ^ 31 by omega) (show q < 2 ^ 31 by omega)).mp e
        rw [Bool.and_eq_true] at hc
        have h1 : ¬ row (t * 12 + n) ≤ row (t * 12 + r) := of_decide_eq_true hc.2
        rw [← en]
        by_cases ein : i = n
        · rw [ein]; exact Int32.le_refl _
        · exact Int32.le_trans (ih r r1 r3 i (by omega) hh) (Int32.le_of_lt (Int32.not_le.mp h1))
      | false =>
        rw [hc, cond_false] at e
        have er : r = q := (nI_eq (show r < 2 ^ 31 by omega) (show q < 2 ^ 31 by omega)).mp e
        rw [← er]
        by_cases ein : i = n
        · rw [ein] at hh ⊢
          rw [hh, Bool.true_and] at hc
          exact Decidable.not_not.mp (of_decide_eq_false hc)
        · exact ih r r1 r3 i (by omega) hh
theorem sub_b {x y : Int32} (hx : isNb x = true) (hy : isNb y = true) : (x - y).toInt = x.toInt - y.toInt := by
  have h1 := isNb_iff.mp hx
  have h2 := isNb_iff.mp hy
  rw [Int32.toInt_sub]
  exact Int.bmod_eq_of_le (by omega) (by omega)
theorem ct_cc {row : Nat → Int32} {a : Nat} {x : Int32} (ha : a < 8) (hr : RG row) (hx : isNb x = true) : ctB row a x ↔ cnt (ccB row a x) 12 ≠ 0 := by
  have hix := tBest_ix (row := row) ha gtI 12 (Nat.le_refl 12)
  unfold ctB
  constructor
  · rintro ⟨h1, h2⟩ z
    obtain ⟨e, -⟩ | ⟨q, q1, q2, q3⟩ := hix
    · exact h1 e
    · rw [q3, tAt_nI ha q1] at h2
      have := cnt_0.mp z q q1
      rw [ccB, q2, decide_eq_false h2] at this
      cases this
  · intro z
    have : ∃ p, p < 12 ∧ ccB row a x p = true := Classical.byContradiction fun w => z (cnt_0.mpr (fun i hi => by
      cases h : ccB row a x i with
      | false => rfl
      | true => exact absurd ⟨i, hi, h⟩ w))
    obtain ⟨p, hp, hc⟩ := this
    rw [ccB, Bool.and_eq_true, Bool.not_eq_true', decide_eq_false_iff_not] at hc
    obtain ⟨c1, c2⟩ := hc
    obtain ⟨-, no⟩ | ⟨q, q1, q2, q3⟩ := hix
    · rw [no p hp] at c1; cases c1
    · have le := tBest_gt (row := row) ha 12 (Nat.le_refl 12) q q1 q3 p hp c1
      rw [q3, tAt_nI ha q1]
      refine ⟨nI_m4 (by omega), fun w => c2 ?_⟩
      have e1 := sub_b (hr (a * 12 + p) (by omega) c1) hx
      have e2 := sub_b (hr (a * 12 + q) (by omega) q2) hx
      rw [Int32.le_iff_toInt_le] at le w ⊢
      omega
theorem mvR_ge {row : Nat → Int32} {a b : Nat} {x : Int32} (hab : a ≠ b) : ∀ i j, i ≤ j → i ≤ 12 → j < 12 → mvR row a b x i (a * 12 + j) = row (a * 12 + j)
  | 0, _, _, _, _ => rfl
  | i + 1, j, h, hi, hj => by
    have ih := mvR_ge (row := row) (x := x) hab i j (by omega) (by omega) hj
    rw [mvR, mvS]
    cases mvP (mvR row a b x i) a x i with
    | false => exact ih
    | true => rw [cond_true, upd_ne (by omega), upd_ne (by omega)]; exact ih
def cmB (row : Nat → Int32) (b a p : Nat) : Bool := hs row (b * 12 + p) && !hs row (a * 12 + p)
def gtB (row : Nat → Int32) (b a : Nat) (dx : Int32) (p : Nat) : Bool := cmB row b a p && !isNb (row (b * 12 + p) + dx)
theorem gt_stay {row π : Nat → Int32} {a b : Nat} (ha : a < 8) (hb : b < 8) (hr : RG row) (hπ : Pot row π) : cnt (stayB row b (glB row π a b)) 12 = 0 ↔ cnt (gtB row b a (glB row π a b)) 12 = 0 := by
  rw [cnt_0, cnt_0]
  refine ⟨fun h i hi => ?_, fun h i hi => ?_⟩
  · have := h i hi
    unfold stayB at this
    unfold gtB cmB
    cases h1 : hs row (b * 12 + i) with
    | false => rfl
    | true => rw [h1, Bool.true_and] at this; rw [this, Bool.and_false]
  · have := h i hi
    unfold gtB cmB at this
    unfold stayB
    cases h1 : hs row (b * 12 + i) with
    | false => rfl
    | true =>
      cases h2 : hs row (a * 12 + i) with
      | false => rw [h1, h2] at this; exact this
      | true =>
        have e1 := Pot_edge hb hi h1 hπ
        have e2 := Pot_edge ha hi h2 hπ
        have e3 : row (b * 12 + i) + glB row π a b = row (a * 12 + i) := by unfold glB; rw [e1, e2]; grind
        rw [e3, hr (a * 12 + i) (by omega) h2]
        rfl
theorem cmR_at {row : Nat → Int32} {a b : Nat} {dx : Int32} : ∀ i j, i ≤ 12 → ¬ (a * 12 ≤ j ∧ j < a * 12 + i) → cmR row b a dx i j = row j
  | 0, _, _, _ => rfl
  | i + 1, j, hi, h => by
    have ih := cmR_at (row := row) (a := a) (b := b) (dx := dx) i j (by omega) (by omega)
    rw [cmR, cmS]
    cases cmP (cmR row b a dx i) b a i with
    | false => exact ih
    | true => rw [cond_true, upd_ne (by omega)]; exact ih
theorem cmP_B {row : Nat → Int32} {a b i : Nat} {dx : Int32} (hab : a ≠ b) (hi : i < 12) : cmP (cmR row b a dx i) b a i = cmB row b a i := by
  have e1 := cmR_at (row := row) (a := a) (b := b) (dx := dx) i (b * 12 + i) (by omega) (by omega)
  have e2 := cmR_at (row := row) (a := a) (b := b) (dx := dx) i (a * 12 + i) (by omega) (by omega)
  unfold cmP cmB hs
  rw [e1, e2]
theorem cmN_c {row : Nat → Int32} {a b : Nat} {dx : Int32} (hab : a ≠ b) : ∀ i, i ≤ 12 → cmN row b a dx i = cnt (cmB row b a) i
  | 0, _ => rfl
  | i + 1, h => by
    have ih := cmN_c (row := row) (dx := dx) hab i (by omega)
    rw [cmN, cmP_B hab (by omega), ih]
    cases hc : cmB row b a i with
    | false => rw [cnt_f hc]; rfl
    | true => rw [cnt_t hc]; rfl
theorem shR_val {row : Nat → Int32} {a : Nat} {x : Int32} : ∀ n j, shR row a x n j = if a * 12 ≤ j ∧ j < a * 12 + n ∧ hs row j = true then row j + x else row j
  | 0, j => by rw [if_neg (by omega)]; rfl
  | n + 1, j => by
    have ih := shR_val (row := row) (a := a) (x := x) n
    have e : shR row a x n (a * 12 + n) = row (a * 12 + n) := shR_ge row a x n _ (by omega)
    have eh : hs (shR row a x n) (a * 12 + n) = hs row (a * 12 + n) := by unfold hs; rw [e]
    rw [shR, shS, eh, e]
    by_cases q : j = a * 12 + n
    · subst q
      cases hh : hs row (a * 12 + n) with
      | true => rw [cond_true, upd_same, if_pos ⟨by omega, by omega, rfl⟩]
      | false => rw [cond_false, e, if_neg (fun z => by cases z.2.2)]
    · have : (bif hs row (a * 12 + n) then upd (shR row a x n) (a * 12 + n) (row (a * 12 + n) + x) else shR row a x n) j = shR row a x n j := by
        cases hs row (a * 12 + n) with
        | true => rw [cond_true, upd_ne q]
        | false => rfl
      rw [this, ih j]
      by_cases z : a * 12 ≤ j ∧ j < a * 12 + n ∧ hs row j = true
      · rw [if_pos z, if_pos ⟨z.1, by omega, z.2.2⟩]
      · rw [if_neg z, if_neg (fun w => z ⟨w.1, by omega, w.2.2⟩)]
theorem Pot_shift {row π : Nat → Int32} {a : Nat} {x : Int32} (hr : RG row) (hπ : Pot row π) (h0 : cnt (stayB row a x) 12 = 0) : ∃ π', Pot (shR row a x 12) π' := by
  refine ⟨fun y => if y = 12 + a then π y - x else π y, fun j hj hh => ?_⟩
  have hh' : hs row j = true := by
    cases h : hs row j with
    | true => rfl
    | false =>
      rw [← hh]
      unfold hs at h ⊢
      rw [shR_val, if_neg (fun z => by have := z.2.2; unfold hs at this; rw [h] at this; cases this), h]
  rw [shR_val]
  have e := hπ j hj hh'
  show _ = (if j % 12 = 12 + a then _ else _) - (if 12 + j / 12 = 12 + a then _ else _)
  rw [if_neg (show ¬ j % 12 = 12 + a by omega)]
  by_cases z : a * 12 ≤ j ∧ j < a * 12 + 12
  · rw [if_pos ⟨z.1, z.2, hh'⟩, if_pos (show 12 + j / 12 = 12 + a by omega), e]
    grind
  · rw [if_neg (fun w => z ⟨w.1, w.2.1⟩), if_neg (show ¬ 12 + j / 12 = 12 + a by omega), e]
theorem Pot_lose {row π : Nat → Int32} {j : Nat} (hπ : Pot row π) : Pot (upd row j NONE) π := fun i hi hh => by
  by_cases e : i = j
  · rw [hs_up2, if_pos e] at hh; cases hh
  · rw [hs_up2, if_neg e] at hh
    rw [upd_ne e]
    exact hπ i hi hh
theorem Pot_drop {row π : Nat → Int32} {a : Nat} (hπ : Pot row π) : ∃ π', Pot (tRem row a) π' := by
  refine ⟨fun y => if y < 12 + a then π y else π (y + 1), fun j hj hh => ?_⟩
  have ej := tRem_at (row := row) (a := a) (j := j) (by omega)
  show _ = (if j % 12 < 12 + a then _ else _) - (if 12 + j / 12 < 12 + a then _ else _)
  rw [if_pos (show j % 12 < 12 + a by omega)]
  by_cases q1 : a * 12 ≤ j
  · by_cases q2 : j < 84
    · rw [if_pos ⟨q1, hj⟩, if_pos q2] at ej
      have h2 : hs row (j + 12) = true := by unfold hs at hh ⊢; rw [ej] at hh; exact hh
      have e := hπ (j + 12) (by omega) h2
      rw [ej, if_neg (show ¬ 12 + j / 12 < 12 + a by omega), e, show (j + 12) % 12 = j % 12 by omega, show 12 + (j + 12) / 12 = 12 + j / 12 + 1 by omega]
    · rw [if_pos ⟨q1, hj⟩, if_neg q2] at ej
      exact absurd ej (hs_ne.mp hh)
  · rw [if_neg (by omega)] at ej
    have h2 : hs row j = true := by unfold hs at hh ⊢; rw [ej] at hh; exact hh
    rw [ej, if_pos (show 12 + j / 12 < 12 + a by omega), hπ j hj h2]
theorem Pot_cm {row π : Nat → Int32} {a b : Nat} (ha : a < 8) (hb : b < 8) (hπ : Pot row π) : ∀ n, n ≤ 12 → Pot (cmR row b a (glB row π a b) n) π
  | 0, _ => hπ
  | n + 1, h => by
    have ih := Pot_cm ha hb hπ n (by omega)
    rw [cmR, cmS]
    cases hc : cmP (cmR row b a (glB row π a b) n) b a n with
    | false => exact ih
    | true =>
      rw [cond_true]
      intro j hj hh
      by_cases e : j = a * 12 + n
      · unfold cmP at hc
        rw [Bool.and_eq_true] at hc
        rw [e, upd_same, Pot_edge hb (show n < 12 by omega) hc.1 ih, show (a * 12 + n) % 12 = n by omega, show (a * 12 + n) / 12 = a by omega]
        unfold glB
        grind
      · rw [hs_up2, if_neg e] at hh
        rw [upd_ne e]
        exact ih j hj hh
theorem Pot_glX {row π : Nat → Int32} {a b : Nat} (ha : a < 8) (hb : b < 8) (hπ : Pot row π) : ∃ π', Pot (glX row a b (glB row π a b)) π' := by
  obtain ⟨π', h⟩ := Pot_drop (a := b) (Pot_cm ha hb hπ 12 (Nat.le_refl 12))
  exact ⟨π', Pot_u (by decide) h⟩
theorem Pot_glR {row π : Nat → Int32} {a b : Nat} (ha : a < 8) (hb : b < 8) (hπ : Pot row π) : ∃ π', Pot (glR row π a b) π' := by
  unfold glR
  cases cB row (12 + a) (12 + b) with
  | false => exact ⟨π, Pot_u (by decide) hπ⟩
  | true =>
    rw [cond_true]
    by_cases h : cnt (stayB row b (glB row π a b)) 12 = 0
    · rw [if_pos h]; exact Pot_glX ha hb hπ
    · rw [if_neg h]; exact ⟨π, Pot_u (by decide) hπ⟩
theorem Pot_mv {row π : Nat → Int32} {a b : Nat} {x : Int32} (ha : a < 8) (hb : b < 8) (hx : π (12 + b) = π (12 + a) + x) (hπ : Pot row π) : ∀ n, n ≤ 12 → Pot (mvR row a b x n) π
  | 0, _ => hπ
  | n + 1, h => by
    have ih := Pot_mv ha hb hx hπ n (by omega)
    rw [mvR, mvS]
    cases hc : mvP (mvR row a b x n) a x n with
    | false => exact ih
    | true =>
      rw [cond_true]
      refine Pot_lose (fun j hj hh => ?_)
      by_cases e : j = b * 12 + n
      · unfold mvP at hc
        rw [Bool.and_eq_true] at hc
        rw [e, upd_same, Pot_edge ha (show n < 12 by omega) hc.1 ih, show (b * 12 + n) % 12 = n by omega, show (b * 12 + n) / 12 = b by omega, hx]
        grind
      · rw [hs_up2, if_neg e] at hh
        rw [upd_ne e]
        exact ih j hj hh
theorem Pot_cut {row π : Nat → Int32} {a T : Nat} {x : Int32} (hT : NT row T) (ha : a < T) (h8 : T < 8) (hπ : Pot row π) : ∃ π', Pot (mvR (ctR row T) a T x 12) π' := by
  refine ⟨fun y => if y = 12 + T then π (12 + a) + x else π y, Pot_mv (by omega) h8 ?_ ?_ 12 (Nat.le_refl 12)⟩
  · show (if _ then _ else _) = (if _ then _ else _) + x
    rw [if_pos rfl, if_neg (show ¬ 12 + a = 12 + T by omega)]
  · unfold ctR
    refine Pot_u (by decide) (Pot_u (by decide) (fun j hj hh => ?_))
    have jT : j < T * 12 := Decidable.byContradiction fun q => hs_ne.mp hh (hT.2.2 j (by omega) hj)
    show _ = (if j % 12 = 12 + T then _ else _) - (if 12 + j / 12 = 12 + T then _ else _)
    rw [if_neg (show ¬ j % 12 = 12 + T by omega), if_neg (show ¬ 12 + j / 12 = 12 + T by omega)]
    exact hπ j hj hh
theorem mIn_iff {v l m : Int32} : mIn v l m = true ↔ l.toInt ≤ v.toInt ∧ v.toInt ≤ m.toInt := by
  unfold mIn
  rw [Bool.and_eq_true, decide_eq_true_eq, decide_eq_true_eq, Int32.not_lt, Int32.not_lt, Int32.le_iff_toInt_le, Int32.le_iff_toInt_le]
theorem gDig_iff {s : Int32} : gDig s = true ↔ 48 ≤ s.toInt ∧ s.toInt ≤ 57 := mIn_iff (v := s) (l := 48) (m := 57)
theorem eq_toI {x : Int32} {n : Nat} (hn : n < 2 ^ 31) : x = nI n ↔ x.toInt = n := ⟨fun h => by rw [h, nI_toInt hn], fun h => Int32.toInt_inj.mp (by rw [h, nI_toInt hn])⟩
theorem gDig_v {s : Int32} (h : gDig s = true) : ∃ d, d ≤ 9 ∧ s = nI (48 + d) := by
  obtain ⟨h1, h2⟩ := gDig_iff.mp h
  refine ⟨(s.toInt - 48).toNat, by omega, (eq_toI (by omega)).mpr (by omega)⟩
theorem cnt_1 {f g : Nat → Bool} {j : Nat} (h : ∀ i, i ≠ j → g i = f i) : ∀ n, (n ≤ j → cnt g n = cnt f n) ∧ cnt g n ≤ cnt f n + 1
  | 0 => ⟨fun _ => rfl, Nat.zero_le _⟩
  | n + 1 => by
    have ih := cnt_1 h n
    refine ⟨fun q => ?_, ?_⟩
    · rw [cnt, cnt, ih.1 (by omega), h n (by omega)]
    · rw [cnt, cnt]
      by_cases e : n = j
      · rw [ih.1 (by omega)]
        cases g n <;> cases f n <;> simp <;> omega
      · rw [h n e]
        have := ih.2
        omega
theorem cnt_hi {row : Nat → Int32} {j : Nat} {v : Int32} (hj : 96 ≤ j) : cnt (hs (upd row j v)) 96 = cnt (hs row) 96 := cnt_congr (fun i hi => by rw [hs_up2, if_neg (by omega)])
theorem hs_cg {row row' : Nat → Int32} {j : Nat} (h : row' j = row j) : hs row' j = hs row j := by unfold hs; rw [h]
theorem cnt_sub {f g : Nat → Bool} : ∀ {n : Nat}, (∀ i, i < n → g i = true → f i = true) → cnt g n ≤ cnt f n
  | 0, _ => Nat.le_refl 0
  | n + 1, h => by
    have ih := cnt_sub (f := f) (g := g) (n := n) (fun i hi => h i (by omega))
    have := h n (by omega)
    rw [cnt, cnt]
    cases hg : g n with
    | false => rw [cond_false]; cases f n <;> simp <;> omega
    | true => rw [this hg]; omega
theorem n40_tRem {X : Nat → Int32} {b : Nat} (hb : b < 8) : cnt (hs (tRem X b)) 96 + cnt (fun i => hs X (b * 12 + i)) 12 = cnt (hs X) 96 := by
  have e1 : cnt (hs (tRem X b)) (b * 12) = cnt (hs X) (b * 12) := cnt_congr (fun i hi => hs_cg (by rw [tRem_at (by omega), if_neg (by omega)]))
  have e3 : cnt (hs (tRem X b)) 96 = cnt (hs (tRem X b)) 84 := cnt_cut (f := hs (tRem X b)) (a := 84) 12 (fun i q1 q2 => by unfold hs; rw [tRem_at (by omega), if_pos (by omega), if_neg (by omega)]; rfl)
  have e4 : cnt (hs (tRem X b)) 84 = cnt (hs (tRem X b)) (b * 12) + cnt (fun i => hs (tRem X b) (b * 12 + i)) (84 - b * 12) := by
    rw [← cnt_add, show b * 12 + (84 - b * 12) = 84 by omega]
  have e5 : cnt (hs X) 96 = cnt (hs X) (b * 12 + 12) + cnt (fun i => hs X (b * 12 + 12 + i)) (84 - b * 12) := by
    rw [← cnt_add, show b * 12 + 12 + (84 - b * 12) = 96 by omega]
  have e6 : cnt (hs X) (b * 12 + 12) = cnt (hs X) (b * 12) + cnt (fun i => hs X (b * 12 + i)) 12 := cnt_add _ _ _
  have e7 : cnt (fun i => hs (tRem X b) (b * 12 + i)) (84 - b * 12) = cnt (fun i => hs X (b * 12 + 12 + i)) (84 - b * 12) := cnt_congr (fun i hi => by
    unfold hs
    rw [tRem_at (by omega), if_pos (by omega), if_pos (by omega), show b * 12 + i + 12 = b * 12 + 12 + i by omega])
  omega
theorem n40_cm {row : Nat → Int32} {a b : Nat} {dx : Int32} : ∀ i, cnt (hs (cmR row b a dx i)) 96 ≤ cnt (hs row) 96 + cmN row b a dx i
  | 0 => Nat.le_of_eq (by rw [cmR, cmN, Nat.add_zero])
  | i + 1 => by
    have ih := n40_cm (row := row) (a := a) (b := b) (dx := dx) i
    rw [cmR, cmN, cmS]
    cases cmP (cmR row b a dx i) b a i with
    | false => exact ih
    | true =>
      rw [cond_true, cond_true]
      have := (cnt_1 (f := hs (cmR row b a dx i)) (g := hs (upd (cmR row b a dx i) (a * 12 + i) (cmR row b a dx i (b * 12 + i) + dx))) (j := a * 12 + i) (fun y hy => by rw [hs_up2, if_neg hy]) 96).2
      omega
theorem n40_gl {row : Nat → Int32} {a b : Nat} {dx : Int32} (hb : b < 8) (hab : a ≠ b) : cnt (hs (glX row a b dx)) 96 ≤ cnt (hs row) 96 := by
  unfold glX
  rw [cnt_hi (by decide)]
  have h1 := n40_tRem (X := cmR row b a dx 12) hb
  have h2 := n40_cm (row := row) (a := a) (b := b) (dx := dx) 12
  have h3 := cmN_c (row := row) (a := a) (b := b) (dx := dx) hab 12 (Nat.le_refl 12)
  have h4 : cnt (cmB row b a) 12 ≤ cnt (fun i => hs (cmR row b a dx 12) (b * 12 + i)) 12 := cnt_sub (fun i hi h => by
    unfold cmB at h
    rw [Bool.and_eq_true] at h
    rw [hs_cg (cmR_at 12 (b * 12 + i) (Nat.le_refl 12) (by omega))]
    exact h.1)
  omega
theorem n40_mv {row : Nat → Int32} {a b : Nat} {x : Int32} (ha : a < 8) (hab : a ≠ b) : ∀ i, i ≤ 12 → cnt (hs (mvR row a b x i)) 96 ≤ cnt (hs row) 96
  | 0, _ => Nat.le_refl _
  | i + 1, hi => by
    have ih := n40_mv (row := row) (x := x) ha hab i (by omega)
    rw [mvR, mvS]
    generalize mvR row a b x i = X at *
    cases hp : mvP X a x i with
    | false => exact ih
    | true =>
      rw [cond_true]
      unfold mvP at hp
      rw [Bool.and_eq_true] at hp
      have h1 := (cnt_1 (f := hs X) (g := hs (upd X (b * 12 + i) (X (a * 12 + i) - x))) (j := b * 12 + i) (fun y hy => by rw [hs_up2, if_neg hy]) 96).2
      have h2 := cnt_up (f := hs (upd (upd X (b * 12 + i) (X (a * 12 + i) - x)) (a * 12 + i) NONE)) (g := hs (upd X (b * 12 + i) (X (a * 12 + i) - x))) (x := a * 12 + i) (by rw [hs_up2, if_pos rfl]; rfl) (by rw [hs_up2, if_neg (show ¬ a * 12 + i = b * 12 + i by omega)]; exact hp.1) (fun y hy => (hs_cg (upd_ne hy)).symm) (show a * 12 + i < 96 by omega)
      omega
theorem n40_sh {row : Nat → Int32} {a : Nat} {x : Int32} : cnt (hs (shR row a x 12)) 96 ≤ cnt (hs row) 96 := cnt_sub (fun j _ h => by
  cases e : hs row j with
  | true => rfl
  | false =>
    have : hs (shR row a x 12) j = false := (hs_cg (by rw [shR_val, if_neg (fun z => by rw [e] at z; cases z.2.2)])).trans e
    rw [this] at h
    cases h)
theorem n40_lose {row : Nat → Int32} {j : Nat} : cnt (hs (upd row j NONE)) 96 ≤ cnt (hs row) 96 := cnt_sub (fun i _ h => by
  rw [hs_up2] at h
  split at h
  · cases h
  · exact h)
