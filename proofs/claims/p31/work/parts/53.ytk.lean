/-! texts without a fault, and what taking them gives -/
section TKF
variable {f : Nat → Int32} {n : Nat}
theorem gF_rng (f : Nat → Int32) (n : Nat) : ∀ d i s, i + d = n → gF f n d i s = -4 ∨ ∃ j, j ≤ n ∧ gF f n d i s = nI j
  | 0, i, s, _ => by
    rw [gF]
    by_cases h : 5 ≤ s
    · rw [if_pos h]; exact Or.inl rfl
    · rw [if_neg h]; exact Or.inr ⟨n, Nat.le_refl n, rfl⟩
  | d + 1, i, s, h => by
    rw [gF]
    cases gN s (f i) with
    | none => exact Or.inr ⟨i, by omega, rfl⟩
    | some s' => exact gF_rng f n d (i + 1) s' (by omega)
theorem gN_2 {s : Int32} {j : Nat} (h : gN 2 s = some j) : j = 3 := by
  rw [show gN 2 s = bif decide (s = 61) then some 3 else none from rfl] at h
  cases hb : decide (s = 61) with
  | true => rw [hb] at h; cases h; rfl
  | false => rw [hb] at h; cases h
theorem gN_c {s j : Nat} (h : gN s 44 = some j) : 5 ≤ s := by
  match s, h with
  | 0, h => cases h
  | 1, h => cases h
  | 2, h => cases h
  | 3, h => cases h
  | 4, h => cases h
  | s + 5, _ => omega
theorem no_empty (hn : n ≤ 60) (h : gF f n n 0 0 = -4) : n ≠ 0 := fun e => by
  subst e
  rw [gF, if_neg (by decide)] at h
  exact absurd h (by decide)
theorem no_trail (hn : n ≤ 60) (h : gF f n n 0 0 = -4) (h0 : 0 < n) : f (n - 1) ≠ 44 := fun e => by
  obtain ⟨all, q, hq, h5⟩ := gF_run hn n 0 0 h (by omega) rfl
  obtain ⟨q', hq'⟩ := all (n - 1) (by omega) (by omega)
  have : n = n - 1 + 1 := by omega
  rw [this, gSt, hq', e] at hq
  have := gN_44 hq
  omega
/-- a start of a part and what is counted before it -/
theorem start_5 (hn : n ≤ 60) (h : gF f n n 0 0 = -4) (k : Nat) : ∀ i, i ≤ n → (sOf f k i).2 ≤ i ∧ 5 * (sOf f k i).1 ≤ (sOf f k i).2 ∧ gSt f (sOf f k i).2 = some 0 ∧ (sOf f k i).1 ≤ k ∧ ((sOf f k i).1 < k → (sOf f k i).1 = cnt (fun j => decide (f j = 44)) i)
  | 0, _ => ⟨Nat.le_refl 0, Nat.le_refl 0, rfl, Nat.zero_le k, fun _ => rfl⟩
  | i + 1, hi => by
    obtain ⟨h1, h2, h3, h4, h5⟩ := start_5 hn h k i (by omega)
    obtain ⟨all, fin⟩ := gF_run hn n 0 0 h (by omega) rfl
    rw [sOf]
    by_cases hk : (sOf f k i).1 < k
    · rw [if_pos hk]
      have h5 := h5 hk
      by_cases hc : f i = 44
      · rw [if_pos hc]
        generalize hs : (sOf f k i).2 = s at h1 h2 h3
        obtain ⟨q, hq⟩ := all i (by omega) (by omega)
        obtain ⟨q', hq'⟩ := all (i + 1) (by omega) (by omega)
        have hq2 := hq'
        rw [gSt, hq, hc] at hq2
        have hq5 := gN_c hq2
        have e0 := gN_44 hq2
        -- from s on: 0, 1, 2, 3
        have s1 : ∀ q, gSt f (s + 1) = some q → q = 1 := fun q e => by rw [gSt, h3] at e; exact gN_0 e
        have s2 : ∀ q, s + 2 ≤ n → gSt f (s + 2) = some q → q = 2 := fun q l e => by
          obtain ⟨r, hr⟩ := all (s + 1) (by omega) (by omega)
          rw [gSt, hr, s1 r hr] at e
          exact gN_1 e
        have s3 : ∀ q, s + 3 ≤ n → gSt f (s + 3) = some q → q = 3 := fun q l e => by
          obtain ⟨r, hr⟩ := all (s + 2) (by omega) (by omega)
          rw [gSt, hr, s2 r (by omega) hr] at e
          exact gN_2 e
        have hge : s + 4 ≤ i := by
          refine Decidable.byContradiction fun hb => ?_
          rcases (show i = s ∨ i = s + 1 ∨ i = s + 2 ∨ i = s + 3 by omega) with e | e | e | e
          · rw [e, h3] at hq; cases hq; omega
          · rw [e] at hq; have := s1 q hq; omega
          · rw [e] at hq; have := s2 q (by omega) hq; omega
          · rw [e] at hq; have := s3 q (by omega) hq; omega
        refine ⟨Nat.le_refl _, by show 5 * ((sOf f k i).1 + 1) ≤ i + 1; omega, by show gSt f (i + 1) = some 0; rw [hq', e0], by show (sOf f k i).1 + 1 ≤ k; omega, fun _ => ?_⟩
        show (sOf f k i).1 + 1 = _
        rw [cnt_t (decide_eq_true hc), h5]
      · rw [if_neg hc]
        exact ⟨by omega, h2, h3, h4, fun _ => by rw [cnt_f (decide_eq_false hc), h5]⟩
    · rw [if_neg hk]
      exact ⟨by omega, h2, h3, h4, fun q => absurd q hk⟩
theorem start_ge (hn : n ≤ 60) (h : gF f n n 0 0 = -4) {k : Nat} (hk : k ≤ cnt (fun j => decide (f j = 44)) n) : 5 * k ≤ (sOf f k n).2 ∧ (sOf f k n).2 < n := by
  obtain ⟨h1, h2, -, h4, h5⟩ := start_5 hn h k n (Nat.le_refl n)
  have h3 := start_3 hn h k
  by_cases hl : (sOf f k n).1 < k
  · have := h5 hl; omega
  · omega
/-- what taking l parts from the k-th on gives -/
theorem TK_f {T : Nat} : ∀ l k (row : Nat → Int32) tk st row', GR row T → TK f n T l k row tk st row' → GR row' T ∧ k ≤ tk ∧ tk ≤ k + l ∧ tAll row' T = tAll row T + (tk - k) ∧ row' 97 = row 97 + nI (tk - k) ∧ (st = none → tk = k + l ∧ row' 98 = row 98) ∧ (∀ r, st = some r → tk < k + l ∧ ((r = 1 ∨ r = 2) ∧ row' 98 = row 98 + 1 ∨ (r = -1 ∨ r = -3) ∧ row' 98 = row 98))
  | 0, k, row, tk, st, row', hG, ⟨e1, e2, e3⟩ => by
    subst e1; subst e2; subst e3
    exact ⟨hG, Nat.le_refl _, Nat.le_refl _, by rw [Nat.sub_self]; rfl, by rw [Nat.sub_self]; exact (Int32.add_zero _).symm, fun _ => ⟨rfl, rfl⟩, fun r h => (by cases h)⟩
  | l + 1, k, row, tk, st, row', hG, ⟨r, row1, hTP, hgo, hst⟩ => by
    have stop : ∀ (c : Int32), r = c → row1 = row → (c = -1 ∨ c = -3) → GR row' T ∧ k ≤ tk ∧ tk ≤ k + (l + 1) ∧ tAll row' T = tAll row T + (tk - k) ∧ row' 97 = row 97 + nI (tk - k) ∧ (st = none → tk = k + (l + 1) ∧ row' 98 = row 98) ∧ (∀ r, st = some r → tk < k + (l + 1) ∧ ((r = 1 ∨ r = 2) ∧ row' 98 = row 98 + 1 ∨ (r = -1 ∨ r = -3) ∧ row' 98 = row 98)) := fun c e1 e2 hc => by
      subst e1; subst e2
      obtain ⟨h1, h2, h3⟩ := hst (by rcases hc with rfl | rfl <;> decide)
      subst h1; subst h2; subst h3
      exact ⟨hG, Nat.le_refl _, by omega, by rw [Nat.sub_self]; rfl, by rw [Nat.sub_self]; exact (Int32.add_zero _).symm, fun h => (by cases h), fun r' h => by cases h; exact ⟨by omega, Or.inr ⟨hc, rfl⟩⟩⟩
    cases hok : rdOK row (f (sOf f k n).2 - 48) (f ((sOf f k n).2 + 1) - 97) (nvx f n ((sOf f k n).2 + 3)) with
    | false =>
      obtain ⟨h1, h2⟩ := hTP.1 hok
      exact stop _ h1 h2 (Or.inl rfl)
    | true =>
      obtain ⟨t1, t2⟩ := hTP.2 hok
      by_cases h40 : tAll row T < 40
      · obtain ⟨a, b, ea, eb, ha, hb, hEN⟩ := t2 h40
        obtain ⟨π, hπ⟩ := hG.2.2.1
        obtain ⟨e1, e2⟩ := EN_det hπ hEN
        generalize nvx f n ((sOf f k n).2 + 3) = v at *
        have hv : isNb v = true := by
          unfold rdOK at hok
          rw [Bool.and_eq_true, Bool.and_eq_true] at hok
          exact hok.2.2
        have h8 := hG.1.2.1
        by_cases h0 : rsV row π a b v = 0
        · rw [enA, if_pos h0, enR_0 h0] at e1
          rw [enR_0 h0] at e2
          have hg := GR_read (v := row 97 + 1) hG hπ ha hb hv h40 h0
          have hc := cnt_put (row := row) (j := a * 12 + b) (v := v) (by omega) (rs0 h0).1 (nb_ne hv)
          rw [← cnt_hi (row := upd row (a * 12 + b) v) (j := 97) (v := row 97 + 1) (by decide), ← tAll_cnt hg.1, ← tAll_cnt hG.1] at hc
          rw [hc] at e1
          have hr : (10 : Int32) < r := by
            rw [e1, show (10 : Int32) + nI (tAll row T + 1) = nI (10 + (tAll row T + 1)) from nI_add 10 _]
            exact nI_lt (a := 10) (by omega) (by omega)
          subst e2
          obtain ⟨g1, g2, g3, g4, g5, g6, g7⟩ := TK_f l (k + 1) _ tk st row' hg (hgo hr)
          have e98 : upd (upd row (a * 12 + b) v) 97 (row 97 + 1) 98 = row 98 := by rw [upd_ne (by decide), upd_ne (by omega)]
          rw [e98] at g6 g7
          rw [upd_same] at g5
          refine ⟨g1, by omega, by omega, by omega, ?_, fun h => ⟨by have := (g6 h).1; omega, (g6 h).2⟩, fun r' h => ⟨by have := (g7 r' h).1; omega, (g7 r' h).2⟩⟩
          rw [g5, show tk - k = tk - (k + 1) + 1 by omega, nI_succ]
          grind
        · rw [enA, if_neg h0] at e1
          rw [enR_1 h0] at e2
          have h12 : r = 1 ∨ r = 2 := by
            rw [e1]
            rcases rsV_cases (row := row) (π := π) (a := a) (p := b) (x := v) with e | e | e
            · exact absurd e h0
            · exact Or.inl e
            · exact Or.inr e
          obtain ⟨g1, g2, g3⟩ := hst (by rcases h12 with e | e <;> rw [e] <;> decide)
          subst g1; subst g2; subst g3; subst e2
          have hg : GR (upd row 98 (row 98 + 1)) T := GR_u hG (by decide)
          refine ⟨hg, Nat.le_refl _, by omega, ?_, ?_, fun h => (by cases h), fun r' h => by cases h; exact ⟨by omega, Or.inl ⟨h12, upd_same⟩⟩⟩
          · rw [tAll_cnt hg.1, tAll_cnt hG.1, cnt_hi (by decide), Nat.sub_self, Nat.add_zero]
          · rw [Nat.sub_self, upd_ne (by decide)]; exact (Int32.add_zero _).symm
      · obtain ⟨h1, h2⟩ := t1 h40
        exact stop _ h1 h2 (Or.inr rfl)
end TKF
