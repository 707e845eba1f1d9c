/-! what the law's looks answer -/
theorem tI_add {x y : Int32} (h1 : -2147483648 ≤ x.toInt + y.toInt) (h2 : x.toInt + y.toInt ≤ 2147483647) : (x + y).toInt = x.toInt + y.toInt := by
  rw [Int32.toInt_add]
  exact Int.bmod_eq_of_le (by omega) (by omega)
theorem tI_sub {x y : Int32} (h1 : -2147483648 ≤ x.toInt - y.toInt) (h2 : x.toInt - y.toInt ≤ 2147483647) : (x - y).toInt = x.toInt - y.toInt := by
  rw [Int32.toInt_sub]
  exact Int.bmod_eq_of_le (by omega) (by omega)
theorem tI_neg {x : Int32} (h1 : -2147483647 ≤ x.toInt) (h2 : x.toInt ≤ 2147483647) : (-x).toInt = -x.toInt := by
  rw [Int32.toInt_neg]
  exact Int.bmod_eq_of_le (by omega) (by omega)
theorem tI_0 : (0 : Int32).toInt = 0 := by decide
theorem tI_m4 : (-4 : Int32).toInt = -4 := by decide
theorem tI_100k : (100000 : Int32).toInt = 100000 := by decide
theorem tI_200k : (200000 : Int32).toInt = 200000 := by decide
/-- a good row: T tapes, readings in their range, places that tell them, 40 of them at most -/
def GR (row : Nat → Int32) (T : Nat) : Prop := NT row T ∧ RG row ∧ (∃ π, Pot row π) ∧ cnt (hs row) 96 ≤ 40
theorem GR.tall {row : Nat → Int32} {T : Nat} (h : GR row T) : tAll row T ≤ 40 := by rw [tAll_cnt h.1]; exact h.2.2.2
theorem spi_ex {row : Nat → Int32} {T a : Nat} (hT : NT row T) (hr : RG row) : ∀ (d N : Nat) (m A : Nat → Int32), N + d = 20 → SPI row a N m A → ∃ m A, MS row a m A
  | 0, N, m, A, hN, h => by
    refine ⟨m, A, SPI_end h (by omega) hT (fun t p ht hp => ?_)⟩
    cases hj : jB row m t p with
    | false => rfl
    | true =>
      have h2 := (SPI_step h (by omega) hr hj (by have := hT.2.1; omega) hp).2.2.1
      have := cnt_le (fun x => decide (jM m t p x = 1)) 20
      omega
  | d + 1, N, m, A, hN, h => by
    by_cases hx : ∀ t p, t < T → p < 12 → jB row m t p = false
    · exact ⟨m, A, SPI_end h (by omega) hT hx⟩
    · obtain ⟨t, hx⟩ := Classical.not_forall.mp hx
      obtain ⟨p, hx⟩ := Classical.not_forall.mp hx
      have hx1 : t < T ∧ p < 12 ∧ jB row m t p = true := by
        refine ⟨Decidable.byContradiction fun q => hx (fun q2 => absurd q2 q), Decidable.byContradiction fun q => hx (fun _ q2 => absurd q2 q), ?_⟩
        cases hj : jB row m t p with
        | false => exact absurd (fun _ _ => hj) hx
        | true => rfl
      exact spi_ex hT hr d (N + 1) _ _ (by omega) (SPI_step h (by omega) hr hx1.2.2 (by have := hT.2.1; omega) hx1.2.1)
theorem cnt_onI {a : Nat} : ∀ n, cnt (fun x => decide ((if x = a then (1 : Int32) else 0) = 1)) n = if a < n then 1 else 0
  | 0 => rfl
  | n + 1 => by
    rw [cnt, cnt_onI n]
    by_cases h : n = a
    · subst h; simp
    · rw [if_neg h]
      by_cases h2 : a < n
      · rw [if_pos h2, if_pos (by omega)]; rfl
      · rw [if_neg h2, if_neg (by omega)]; rfl
theorem ms_ex {row : Nat → Int32} {T a : Nat} (hT : NT row T) (hr : RG row) (ha : a < 20) : ∃ m A, MS row a m A := by
  refine spi_ex hT hr 19 1 (fun x => if x = a then 1 else 0) (fun _ => 0) rfl ⟨fun x _ => ?_, if_pos rfl, ?_, fun x hx hm => ?_⟩
  · by_cases h : x = a
    · exact Or.inr (if_pos h)
    · exact Or.inl (if_neg h)
  · rw [cnt_onI, if_pos ha]
  · have e : x = a := Decidable.byContradiction fun q => by
      have hm : (if x = a then (1 : Int32) else 0) = 1 := hm
      rw [if_neg q] at hm; cases hm
    subst e
    exact ⟨Cn.rf, fun π _ => by grind, by show -(999 * ((1 : Nat) : Int)) ≤ (0 : Int32).toInt; decide, by show (0 : Int32).toInt ≤ 999 * ((1 : Nat) : Int); decide⟩
theorem far_b {row π : Nat → Int32} {T x y : Nat} (h : GR row T) (hπ : Pot row π) (hx : x < 20) (hy : y < 20) (hc : cB row x y = true) : -19980 ≤ (π y - π x).toInt ∧ (π y - π x).toInt ≤ 19980 := by
  obtain ⟨m, A, h1, h2⟩ := ms_ex (a := x) h.1 h.2.1 hx
  obtain ⟨e, b1, b2⟩ := h2 y hy hc
  rw [← e π hπ]
  exact ⟨b1, b2⟩
theorem cB_self {row : Nat → Int32} {x : Nat} : cB row x x = true := cB_iff.mpr Cn.rf
theorem cB_tr {row : Nat → Int32} {x y z : Nat} (h1 : cB row x y = true) (h2 : cB row y z = true) : cB row x z = true := cB_iff.mpr ((cB_iff.mp h1).tr (cB_iff.mp h2))
theorem cB_hs {row : Nat → Int32} {t p : Nat} (ht : t < 8) (hp : p < 12) (h : hs row (t * 12 + p) = true) : cB row (12 + t) p = true := cB_iff.mpr (Cn_edge ht hp h)
theorem fV_t {row π : Nat → Int32} {x y : Nat} (hc : cB row x y = true) : fV row π x y = 100000 + (π y - π x) := by rw [fV, hc, cond_true]
theorem fV_f {row π : Nat → Int32} {x y : Nat} (hc : cB row x y = false) : fV row π x y = -4 := by rw [fV, hc, cond_false]
theorem fV_I {row π : Nat → Int32} {T x y : Nat} (h : GR row T) (hπ : Pot row π) (hx : x < 20) (hy : y < 20) (hc : cB row x y = true) : (fV row π x y).toInt = 100000 + (π y - π x).toInt ∧ -19980 ≤ (π y - π x).toInt ∧ (π y - π x).toInt ≤ 19980 := by
  have hb := far_b h hπ hx hy hc
  refine ⟨?_, hb⟩
  rw [fV_t hc, tI_add (by rw [tI_100k]; omega) (by rw [tI_100k]; omega), tI_100k]
theorem ne_I {x y : Int32} (h : x.toInt ≠ y.toInt) : x ≠ y := fun e => h (by rw [e])
theorem fV_ne {row π : Nat → Int32} {T x y : Nat} (h : GR row T) (hπ : Pot row π) (hx : x < 20) (hy : y < 20) (hc : cB row x y = true) : fV row π x y ≠ -4 := by
  have hb := fV_I h hπ hx hy hc
  exact ne_I (by rw [hb.1, tI_m4]; omega)
/-- a reading as it is told -/
def rv (row : Nat → Int32) (j : Nat) : Int32 := bif hs row j then 100000 + row j else -4
theorem rv_t {row : Nat → Int32} {j : Nat} (h : hs row j = true) : rv row j = 100000 + row j := by rw [rv, h, cond_true]
theorem rv_f {row : Nat → Int32} {j : Nat} (h : hs row j = false) : rv row j = -4 := by rw [rv, h, cond_false]
theorem rv_I {row : Nat → Int32} {j : Nat} (hr : RG row) (hj : j < 96) (h : hs row j = true) : (rv row j).toInt = 100000 + (row j).toInt ∧ -999 ≤ (row j).toInt ∧ (row j).toInt ≤ 999 := by
  have hb := isNb_iff.mp (hr j hj h)
  refine ⟨?_, hb⟩
  rw [rv_t h, tI_add (by rw [tI_100k]; omega) (by rw [tI_100k]; omega), tI_100k]
theorem rv_ne {row : Nat → Int32} {j : Nat} (hr : RG row) (hj : j < 96) (h : hs row j = true) : rv row j ≠ -4 := by
  have hb := rv_I hr hj h
  exact ne_I (by rw [hb.1, tI_m4]; omega)
/-! raw -/
theorem LM.v {S0 : Sf} {R : Rf} {kc : Nat} {As : List Value} {x y : Int32} (h : LM S0 R kc As (.int x)) (e : x = y) : LM S0 R kc As (.int y) := e ▸ h
section LR
variable {S0 : Sf} {R : Rf} {T n m : Nat} {π : Nat → Int32}
theorem lr_reading (t p : Int32) : LM S0 R kX_reading [.ref 0, .int t, .int p] (.int (a_reading (S0 2) t p)) := fun S hS => by
  have e : S 2 = S0 2 := hS 2 (by decide)
  have h := xl_reading S R t p
  rw [e] at h
  exact ⟨S, h, hS⟩
theorem lr_diff (hG : GR (S0 2) T) (hπ : Pot (S0 2) π) (x y w : Int32) : LM S0 R kX_difference [.ref 0, .int x, .int y, .int w] (.int (a_diff (S0 2) π x y w)) := fun S hS => by
  have e : S 2 = S0 2 := hS 2 (by decide)
  obtain ⟨S1, h, h1⟩ := xl_diff S R (e ▸ hG.1) (e ▸ hπ) x y w
  rw [e] at h
  exact ⟨S1, h, hS.tr h1⟩
theorem lr_follows (hG : GR (S0 2) T) (hπ : Pot (S0 2) π) (x y : Int32) : LM S0 R kX_follows [.ref 0, .int x, .int y] (.int (a_follows (S0 2) π x y)) := fun S hS => by
  have e : S 2 = S0 2 := hS 2 (by decide)
  obtain ⟨S1, h, h1⟩ := xl_follows S R (e ▸ hG.1) (e ▸ hπ) x y
  rw [e] at h
  exact ⟨S1, h, hS.tr h1⟩
theorem lr_zeros (hG : GR (S0 2) T) (hπ : Pot (S0 2) π) (x y : Int32) : LM S0 R kX_zeros [.ref 0, .int x, .int y] (.int (a_zeros (S0 2) π x y)) := fun S hS => by
  have e : S 2 = S0 2 := hS 2 (by decide)
  obtain ⟨S1, h, h1⟩ := xl_zeros S R (e ▸ hG.1) (e ▸ hπ) x y
  rw [e] at h
  exact ⟨S1, h, hS.tr h1⟩
theorem lr_whyNot (hG : GR (S0 2) T) (hπ : Pot (S0 2) π) (x y w : Int32) : LM S0 R kX_whyNot [.ref 0, .int x, .int y, .int w] (.int (a_whyNot (S0 2) π x y w)) := fun S hS => by
  have e : S 2 = S0 2 := hS 2 (by decide)
  obtain ⟨S1, h, h1⟩ := xl_whyNot S R (e ▸ hG.1) (e ▸ hπ) x y w
  rw [e] at h
  exact ⟨S1, h, hS.tr h1⟩
theorem lr_ifRead (hG : GR (S0 2) T) (x y : Int32) : LM S0 R kX_ifRead [.ref 0, .int x, .int y] (.int (a_ifRead (S0 2) x y)) := fun S hS => by
  have e : S 2 = S0 2 := hS 2 (by decide)
  obtain ⟨S1, h, h1⟩ := xl_ifRead S R (e ▸ hG.1) x y
  rw [e] at h
  exact ⟨S1, h, hS.tr h1⟩
theorem lr_holding (hG : GR (S0 2) T) (x : Int32) : LM S0 R kX_holding [.ref 0, .int x] (.int (a_holding (S0 2) x)) := fun S hS => by
  have e : S 2 = S0 2 := hS 2 (by decide)
  obtain ⟨S1, h, h1⟩ := xl_holding S R (e ▸ hG.1) x
  rw [e] at h
  exact ⟨S1, h, hS.tr h1⟩
theorem lr_sign (hG : GR (S0 2) T) (x y : Int32) : LM S0 R kX_sign [.ref 0, .int x, .int y] (.int (a_sign (S0 2) x y)) := fun S hS => by
  have e : S 2 = S0 2 := hS 2 (by decide)
  obtain ⟨S1, h, h1⟩ := xl_sign S R (e ▸ hG.1) x y
  rw [e] at h
  exact ⟨S1, h, hS.tr h1⟩
theorem lr_point (hG : GR (S0 2) T) (hπ : Pot (S0 2) π) (x y : Int32) : LM S0 R kX_point [.ref 0, .int x, .int y] (.int (a_point (S0 2) π T x y)) := fun S hS => by
  have e : S 2 = S0 2 := hS 2 (by decide)
  obtain ⟨S1, h, h1⟩ := xl_point S R (e ▸ hG.1) (e ▸ hπ) x y
  rw [e] at h
  exact ⟨S1, h, hS.tr h1⟩
theorem lr_tapeOf (hG : GR (S0 2) T) (x y : Int32) : LM S0 R kX_tapeOf [.ref 0, .int x, .int y] (.int (a_tapeOf (S0 2) T x y)) := fun S hS => by
  have e : S 2 = S0 2 := hS 2 (by decide)
  obtain ⟨S1, h, h1⟩ := xl_tapeOf S R (e ▸ hG.1) x y
  rw [e] at h
  exact ⟨S1, h, hS.tr h1⟩
theorem lr_count (hG : GR (S0 2) T) (hπ : Pot (S0 2) π) (hn : S0 10 1 = nI n) (hm : S0 3 1 = nI m) (x : Int32) : LM S0 R kX_count [.ref 0, .int x] (.int (a_count (S0 2) π T n m x)) := fun S hS => by
  have e : S 2 = S0 2 := hS 2 (by decide)
  obtain ⟨S1, h, h1⟩ := xl_count S R (e ▸ hG.1) (e ▸ hπ) (n := n) (m := m) (by rw [hS 10 (by decide)]; exact hn) (by rw [hS 3 (by decide)]; exact hm) x
  rw [e] at h
  exact ⟨S1, h, hS.tr h1⟩
theorem lk_known (hG : GR (S0 2) T) : LM S0 R kX_known [.ref 0] (.double (a_known (S0 2))) := fun S hS => by
  have e : S 2 = S0 2 := hS 2 (by decide)
  obtain ⟨S1, h, h1⟩ := xl_known S R (e ▸ hG.1)
  rw [e] at h
  exact ⟨S1, h, hS.tr h1⟩
theorem lk_best (hG : GR (S0 2) T) : LM S0 R kX_bestReading [.ref 0] (.int (a_best (S0 2) T)) := fun S hS => by
  have e : S 2 = S0 2 := hS 2 (by decide)
  obtain ⟨S1, h, h1⟩ := xl_best S R (e ▸ hG.1)
  rw [e] at h
  exact ⟨S1, h, hS.tr h1⟩
/-! by places -/
variable {t p q o : Nat}
theorem tIs_T {row : Nat → Int32} {T : Nat} (hT : NT row T) : tIs row (nI T) = false := by
  unfold tIs
  rw [hT.1, decide_eq_false (p := ¬ nI T ≤ nI T) (by simp), Bool.and_false]
theorem lk_reading (hG : GR (S0 2) T) (ht : t < T) (hp : p < 12) : LM S0 R kX_reading [.ref 0, .int (nI t), .int (nI p)] (.int (rv (S0 2) (t * 12 + p))) := (lr_reading (nI t) (nI p)).v (by
  have h8 := hG.1.2.1
  rw [a_reading, tIs_nI hG.1.1 h8 ht, isPt_nI hp, tHas_nI (by omega) hp, tAt_nI (by omega) hp]
  rfl)
theorem lk_reading0 (hG : GR (S0 2) T) (p : Int32) : LM S0 R kX_reading [.ref 0, .int (nI T), .int p] (.int (-1)) := (lr_reading _ _).v (by rw [a_reading, tIs_T hG.1]; rfl)
theorem lk_d0 (hG : GR (S0 2) T) (hπ : Pot (S0 2) π) (hp : p < 12) (hq : q < 12) : LM S0 R kX_difference [.ref 0, .int (nI p), .int (nI q), .int 0] (.int (fV (S0 2) π p q)) := (lr_diff hG hπ _ _ _).v (by
  rw [a_diff, isPt_nI hp, isPt_nI hq, nI_clamp (by omega), nI_clamp (by omega)]; rfl)
theorem lk_d1 (hG : GR (S0 2) T) (hπ : Pot (S0 2) π) (hp : p < 12) (hq : q < 12) : LM S0 R kX_difference [.ref 0, .int (nI p), .int (nI q), .int 1] (.int (fV (S0 2) π p q)) := (lr_diff hG hπ _ _ _).v (by
  rw [a_diff, isPt_nI hp, isPt_nI hq, nI_clamp (by omega), nI_clamp (by omega)]; rfl)
theorem lk_follows (hG : GR (S0 2) T) (hπ : Pot (S0 2) π) (ht : t < T) (hp : p < 12) : LM S0 R kX_follows [.ref 0, .int (nI t), .int (nI p)] (.int (fV (S0 2) π (12 + t) p)) := (lr_follows hG hπ _ _).v (by
  have h8 := hG.1.2.1
  rw [a_follows, tIs_nI hG.1.1 h8 ht, isPt_nI hp, nI_clamp (by omega), nI_clamp (by omega)]; rfl)
theorem lk_zeros (hG : GR (S0 2) T) (hπ : Pot (S0 2) π) (ht : t < T) (ho : o < T) : LM S0 R kX_zeros [.ref 0, .int (nI t), .int (nI o)] (.int (fV (S0 2) π (12 + t) (12 + o))) := (lr_zeros hG hπ _ _).v (by
  have h8 := hG.1.2.1
  rw [a_zeros, tIs_nI hG.1.1 h8 ht, tIs_nI hG.1.1 h8 ho, nI_clamp (by omega), nI_clamp (by omega)]; rfl)
theorem lk_ifRead (hG : GR (S0 2) T) (ht : t < T) (hp : p < 12) : LM S0 R kX_ifRead [.ref 0, .int (nI t), .int (nI p)] (.int (nI (nP (S0 2) t p))) := (lr_ifRead hG _ _).v (by
  have h8 := hG.1.2.1
  rw [a_ifRead, tIs_nI hG.1.1 h8 ht, isPt_nI hp, nI_clamp (by omega), nI_clamp (by omega)]; rfl)
theorem lk_whyNot (hG : GR (S0 2) T) (hπ : Pot (S0 2) π) (ht : t < T) (hp : p < 12) {x : Int32} (hx : isNb x = true) : LM S0 R kX_whyNot [.ref 0, .int (nI t), .int (nI p), .int x] (.int (rsV (S0 2) π t p x)) := (lr_whyNot hG hπ _ _ _).v (by
  have h8 := hG.1.2.1
  rw [a_whyNot, tIs_nI hG.1.1 h8 ht, isPt_nI hp, hx, nI_clamp (by omega), nI_clamp (by omega)]; rfl)
theorem lk_h0 (hG : GR (S0 2) T) : LM S0 R kX_holding [.ref 0, .int 0] (.int (nI (brs (S0 2)))) := (lr_holding hG _).v rfl
theorem lk_h1 (hG : GR (S0 2) T) : LM S0 R kX_holding [.ref 0, .int 1] (.int (nI (brs (S0 2)))) := (lr_holding hG _).v rfl
theorem lk_sign (hG : GR (S0 2) T) (ht : t < T) : LM S0 R kX_sign [.ref 0, .int (nI t), .int 0] (.int (sgn (wl (S0 2) t 12) 0)) := (lr_sign hG _ _).v (by
  have h8 := hG.1.2.1
  rw [a_sign, tIs_nI hG.1.1 h8 ht, nI_clamp (by omega)]; rfl)
theorem lk_sign0 (hG : GR (S0 2) T) : LM S0 R kX_sign [.ref 0, .int (nI T), .int 0] (.int (-1)) := (lr_sign hG _ _).v (by rw [a_sign, tIs_T hG.1]; rfl)
theorem lk_p0 (hG : GR (S0 2) T) (hπ : Pot (S0 2) π) (hp : p < 12) : LM S0 R kX_point [.ref 0, .int (nI p), .int 0] (.int (nI (tAtP (S0 2) (nI p) T))) := (lr_point hG hπ _ _).v (by rw [a_point, isPt_nI hp]; rfl)
theorem lk_p1 (hG : GR (S0 2) T) (hπ : Pot (S0 2) π) (hp : p < 12) : LM S0 R kX_point [.ref 0, .int (nI p), .int 1] (.int (nI (pW (S0 2) p 0 12))) := (lr_point hG hπ _ _).v (by rw [a_point, isPt_nI hp, nI_clamp (by omega)]; rfl)
theorem lk_p2 (hG : GR (S0 2) T) (hπ : Pot (S0 2) π) (hp : p < 12) : LM S0 R kX_point [.ref 0, .int (nI p), .int 2] (.int (nI (pA (S0 2) π p 12))) := (lr_point hG hπ _ _).v (by rw [a_point, isPt_nI hp, nI_clamp (by omega)]; rfl)
theorem lk_p3 (hG : GR (S0 2) T) (hπ : Pot (S0 2) π) (hp : p < 12) : LM S0 R kX_point [.ref 0, .int (nI p), .int 3] (.int (pF (S0 2) π p 12)) := (lr_point hG hπ _ _).v (by rw [a_point, isPt_nI hp, nI_clamp (by omega)]; rfl)
theorem lk_t0 (hG : GR (S0 2) T) (ht : t < T) : LM S0 R kX_tapeOf [.ref 0, .int (nI t), .int 0] (.int (nI (tOf (S0 2) (nI t) 12))) := (lr_tapeOf hG _ _).v (by rw [a_tapeOf, tIs_nI hG.1.1 hG.1.2.1 ht]; rfl)
theorem lk_t1 (hG : GR (S0 2) T) (ht : t < T) : LM S0 R kX_tapeOf [.ref 0, .int (nI t), .int 1] (.int (tBest (S0 2) (nI t) ltI 12)) := (lr_tapeOf hG _ _).v (by rw [a_tapeOf, tIs_nI hG.1.1 hG.1.2.1 ht]; rfl)
theorem lk_t2 (hG : GR (S0 2) T) (ht : t < T) : LM S0 R kX_tapeOf [.ref 0, .int (nI t), .int 2] (.int (tBest (S0 2) (nI t) gtI 12)) := (lr_tapeOf hG _ _).v (by rw [a_tapeOf, tIs_nI hG.1.1 hG.1.2.1 ht]; rfl)
theorem lk_t3 (hG : GR (S0 2) T) (ht : t < T) : LM S0 R kX_tapeOf [.ref 0, .int (nI t), .int 3] (.int (tAt (S0 2) (nI t) (tBest (S0 2) (nI t) gtI 12) - tAt (S0 2) (nI t) (tBest (S0 2) (nI t) ltI 12))) := (lr_tapeOf hG _ _).v (by rw [a_tapeOf, tIs_nI hG.1.1 hG.1.2.1 ht]; rfl)
theorem lk_t4 (hG : GR (S0 2) T) (ht : t < T) : LM S0 R kX_tapeOf [.ref 0, .int (nI t), .int 4] (.int (nI (pW (S0 2) (12 + t) 12 T))) := (lr_tapeOf hG _ _).v (by
  have h8 := hG.1.2.1
  rw [a_tapeOf, tIs_nI hG.1.1 hG.1.2.1 ht, nI_clamp (by omega)]; rfl)
theorem lk_cN (hG : GR (S0 2) T) (hπ : Pot (S0 2) π) (hn : S0 10 1 = nI n) (hm : S0 3 1 = nI m) {w : Nat} (hw : w ≤ 13) : LM S0 R kX_count [.ref 0, .int (nI w)] (.int (a_countN (S0 2) π T n m w)) := (lr_count hG hπ hn hm _).v (by
  rw [a_count, decide_eq_true (nI_pos (show w < 2 ^ 31 by omega)), decide_eq_true (p := ¬ 13 < nI w) (nI_nlt (b := w) (a := 13) hw (by decide)), nI_clamp (by omega)]
  rfl)
theorem lk_c0 (hG : GR (S0 2) T) (hπ : Pot (S0 2) π) (hn : S0 10 1 = nI n) (hm : S0 3 1 = nI m) : LM S0 R kX_count [.ref 0, .int 0] (.int (nI T)) := (lk_cN hG hπ hn hm (w := 0) (by decide)).v hG.1.1
theorem lk_c1 (hG : GR (S0 2) T) (hπ : Pot (S0 2) π) (hn : S0 10 1 = nI n) (hm : S0 3 1 = nI m) : LM S0 R kX_count [.ref 0, .int 1] (.int (nI (tAll (S0 2) T))) := (lk_cN hG hπ hn hm (w := 1) (by decide)).v rfl
theorem lk_c2 (hG : GR (S0 2) T) (hπ : Pot (S0 2) π) (hn : S0 10 1 = nI n) (hm : S0 3 1 = nI m) : LM S0 R kX_count [.ref 0, .int 2] (.int (nI (cnt (lowB (S0 2)) 12))) := (lk_cN hG hπ hn hm (w := 2) (by decide)).v rfl
theorem lk_c3 (hG : GR (S0 2) T) (hπ : Pot (S0 2) π) (hn : S0 10 1 = nI n) (hm : S0 3 1 = nI m) : LM S0 R kX_count [.ref 0, .int 3] (.int (nI (cnt (lowR (S0 2) T) 12))) := (lk_cN hG hπ hn hm (w := 3) (by decide)).v rfl
theorem lk_c4 (hG : GR (S0 2) T) (hπ : Pot (S0 2) π) (hn : S0 10 1 = nI n) (hm : S0 3 1 = nI m) : LM S0 R kX_count [.ref 0, .int 4] (.int ((if 0 < cnt (lowR (S0 2) T) 12 then nI (cnt (lowR (S0 2) T) 12 - 1) else 0))) := (lk_cN hG hπ hn hm (w := 4) (by decide)).v rfl
theorem lk_c5 (hG : GR (S0 2) T) (hπ : Pot (S0 2) π) (hn : S0 10 1 = nI n) (hm : S0 3 1 = nI m) : LM S0 R kX_count [.ref 0, .int 5] (.int (pM (S0 2) π 12)) := (lk_cN hG hπ hn hm (w := 5) (by decide)).v rfl
theorem lk_c6 (hG : GR (S0 2) T) (hπ : Pot (S0 2) π) (hn : S0 10 1 = nI n) (hm : S0 3 1 = nI m) : LM S0 R kX_count [.ref 0, .int 6] (.int (nI (tBare (S0 2) T 12))) := (lk_cN hG hπ hn hm (w := 6) (by decide)).v rfl
theorem lk_c7 (hG : GR (S0 2) T) (hπ : Pot (S0 2) π) (hn : S0 10 1 = nI n) (hm : S0 3 1 = nI m) : LM S0 R kX_count [.ref 0, .int 7] (.int (nI (tBareT (S0 2) T))) := (lk_cN hG hπ hn hm (w := 7) (by decide)).v rfl
theorem lk_c8 (hG : GR (S0 2) T) (hπ : Pot (S0 2) π) (hn : S0 10 1 = nI n) (hm : S0 3 1 = nI m) : LM S0 R kX_count [.ref 0, .int 8] (.int (S0 2 97)) := (lk_cN hG hπ hn hm (w := 8) (by decide)).v rfl
theorem lk_c9 (hG : GR (S0 2) T) (hπ : Pot (S0 2) π) (hn : S0 10 1 = nI n) (hm : S0 3 1 = nI m) : LM S0 R kX_count [.ref 0, .int 9] (.int (S0 2 98)) := (lk_cN hG hπ hn hm (w := 9) (by decide)).v rfl
theorem lk_c10 (hG : GR (S0 2) T) (hπ : Pot (S0 2) π) (hn : S0 10 1 = nI n) (hm : S0 3 1 = nI m) : LM S0 R kX_count [.ref 0, .int 10] (.int (S0 2 99)) := (lk_cN hG hπ hn hm (w := 10) (by decide)).v rfl
theorem lk_c11 (hG : GR (S0 2) T) (hπ : Pot (S0 2) π) (hn : S0 10 1 = nI n) (hm : S0 3 1 = nI m) : LM S0 R kX_count [.ref 0, .int 11] (.int (S0 2 100)) := (lk_cN hG hπ hn hm (w := 11) (by decide)).v rfl
theorem lk_c12 (hG : GR (S0 2) T) (hπ : Pot (S0 2) π) (hn : S0 10 1 = nI n) (hm : S0 3 1 = nI m) : LM S0 R kX_count [.ref 0, .int 12] (.int (nI n)) := (lk_cN hG hπ hn hm (w := 12) (by decide)).v rfl
theorem lk_c13 (hG : GR (S0 2) T) (hπ : Pot (S0 2) π) (hn : S0 10 1 = nI n) (hm : S0 3 1 = nI m) : LM S0 R kX_count [.ref 0, .int 13] (.int (nI m)) := (lk_cN hG hπ hn hm (w := 13) (by decide)).v rfl
end LR
