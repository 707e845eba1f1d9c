/-! the document's own reckoning: texts, part 4: parts, whole texts, faults -/
/-- what the reading of texts may change -/
def PFr (S S' : Nat → Nat → Int32) : Prop := (∀ i, i ≠ 24 → S' i = S i) ∧ ∀ j, j < 9 ∨ 13 < j → S' 24 j = S 24 j
theorem PFr.rf {S : Nat → Nat → Int32} : PFr S S := ⟨fun _ _ => rfl, fun _ _ => rfl⟩
theorem PFr.tr {S S1 S2 : Nat → Nat → Int32} (h1 : PFr S S1) (h2 : PFr S1 S2) : PFr S S2 := ⟨fun i hi => (h2.1 i hi).trans (h1.1 i hi), fun j hj => (h2.2 j hj).trans (h1.2 j hj)⟩
theorem PFr_TS {S : Nat → Nat → Int32} {p : Nat} {ok : Bool} : PFr S (TS S p ok) := ⟨fun i hi => TS_n S hi, fun j hj => TS_o S (by omega) (by omega)⟩
theorem PFr_u {S : Nat → Nat → Int32} {j : Nat} {x : Int32} (hj : 9 ≤ j ∧ j ≤ 13) : PFr S (u2 S 24 (upd (S 24) j x)) := ⟨fun i hi => u2_ne hi, fun i hi => by rw [u2_same, upd_ne (by omega)]⟩
/-- a part from p on -/
def PQ (f : Nat → Int32) (n p p' : Nat) (ok' : Bool) (t q v : Int32) : Prop := p ≤ p' ∧ p' ≤ n ∧ (ok' = false → gF f n (n - p) p 0 = nI p') ∧ (ok' = true → p < p' ∧ t = f p - 48 ∧ q = f (p + 1) - 97 ∧ isNb v = true ∧ ∃ s, 5 ≤ s ∧ s ≤ 7 ∧ gF f n (n - p) p 0 = gF f n (n - p') p' s ∧ (p' < n → gDig (f p') = true → s = 7) ∧ ((p' < n → gDig (f p') = false) → v = nvx f n (p + 3)) ∧ ∀ j, p ≤ j → j < p' → f j ≠ 44)
theorem mIn_tap (x : Int32) : mIn (x - 48) 0 7 = mIn x 48 55 := bool_eq (by
  rw [mIn_iff, mIn_iff, show (0 : Int32).toInt = 0 by decide, show (7 : Int32).toInt = 7 by decide, show (48 : Int32).toInt = 48 by decide, show (55 : Int32).toInt = 55 by decide]
  exact sub_in (k := 48) (lo := 0) (hi := 7) (by decide) (by decide) (by decide) (by decide) (by decide))
theorem isPt_let (x : Int32) : isPt (x - 97) = mIn x 97 108 := by
  rw [← mIn_pt]
  refine bool_eq ?_
  rw [mIn_iff, mIn_iff, show (0 : Int32).toInt = 0 by decide, show (11 : Int32).toInt = 11 by decide, show (97 : Int32).toInt = 97 by decide, show (108 : Int32).toInt = 108 by decide]
  exact sub_in (k := 97) (lo := 0) (hi := 11) (by decide) (by decide) (by decide) (by decide) (by decide)
theorem gN0 (x : Int32) : gN 0 x = bif mIn x 48 55 then some 1 else none := rfl
theorem gN1 (x : Int32) : gN 1 x = bif mIn x 97 108 then some 2 else none := rfl
theorem gN2 (x : Int32) : gN 2 x = bif decide (x = 61) then some 3 else none := rfl
theorem gN_end {s : Nat} {x : Int32} (h5 : 5 ≤ s) (h7 : s ≤ 7) (h : gDig x = true → s = 7) : gN s x = gNP x := by
  have hs : s = 5 ∨ s = 6 ∨ s = 7 := by omega
  rcases hs with rfl | rfl | rfl
  · have : gDig x = false := by
      cases e : gDig x
      · rfl
      · have := h e; omega
    show (bif gDig x then some 6 else gNP x) = _
    rw [this]; rfl
  · have : gDig x = false := by
      cases e : gDig x
      · rfl
      · have := h e; omega
    show (bif gDig x then some 7 else gNP x) = _
    rw [this]; rfl
  · rfl
section MT4
variable (S : Nat → Nat → Int32) (R : Nat → Nat)
theorem TS_put {p j : Nat} {ok : Bool} {x : Int32} (h1 : j ≠ 9) (h2 : j ≠ 10) : u2 (TS S p ok) 24 (upd (TS S p ok 24) j x) = TS (u2 S 24 (upd (S 24) j x)) p ok := by
  unfold TS
  rw [u2_same, u2_same, u2_u2, u2_u2]
  congr 1
  funext z
  by_cases a : z = j
  · subst a; rw [upd_same, upd_ne h2, upd_ne h1, upd_same]
  · rw [upd_ne a]
    by_cases b : z = 10
    · subst b; rw [upd_same, upd_same]
    · rw [upd_ne b, upd_ne b]
      by_cases c : z = 9
      · subst c; rw [upd_same, upd_same]
      · rw [upd_ne c, upd_ne c, upd_ne a]
theorem TS_self {p : Nat} {ok : Bool} (h1 : S 24 9 = nI p) (h2 : S 24 10 = b2i ok) : TS S p ok = S := by
  unfold TS
  have : upd (upd (S 24) 9 (nI p)) 10 (b2i ok) = S 24 := by
    funext z
    by_cases b : z = 10
    · subst b; rw [upd_same, h2]
    · rw [upd_ne b]
      by_cases c : z = 9
      · subst c; rw [upd_same, h1]
      · rw [upd_ne c]
  rw [this, u2_self]
theorem ev_mtakesX (p : Nat) (ok may : Bool) : ∃ p1 ok1, EvM kM_takes [.ref 24, .int (b2i may)] (mk (TS S p ok) R) none (mk (TS S p1 ok1) R) ∧ (ok = false ∨ may = false → p1 = p ∧ ok1 = false) ∧ (ok = true → may = true → p1 = p + 1 ∧ ok1 = true) ∧ p1 ≤ p + 1 := by
  refine ⟨_, _, ev_mtakes S R may, fun h => ?_, fun h1 h2 => ?_, ?_⟩
  · rcases h with rfl | rfl
    · exact ⟨rfl, rfl⟩
    · rw [Bool.and_false]; exact ⟨rfl, rfl⟩
  · subst h1; subst h2; exact ⟨rfl, rfl⟩
  · cases ok && may <;> simp
theorem ev_mtakesNumberU {n p : Nat} {ok : Bool} (hn : S 24 6 = nI n) (hc : n ≤ 60) (hp : p < 1000) (h : ok = true → p ≤ n) : ∃ p' ok' v, EvM kM_takesNumber [.ref 24] (mk (TS S p ok) R) none (mk (u2 (TS S p' ok') 24 (upd (TS S p' ok' 24) 13 v)) R) ∧ (ok = false → p' = p ∧ ok' = false) ∧ (ok = true → PN (S 28) n p p' ok' v) := by
  cases ok with
  | false =>
    obtain ⟨v, c⟩ := ev_mtakesNumber0 S R hn hc hp
    exact ⟨p, false, v, c, fun _ => ⟨rfl, rfl⟩, fun q => by cases q⟩
  | true =>
    obtain ⟨p', ok', v, c, h'⟩ := ev_mtakesNumber S R hn hc (h rfl)
    exact ⟨p', ok', v, c, fun q => (by cases q), fun _ => h'⟩
set_option maxRecDepth 100000 in
theorem ev_mtakesPart {n p : Nat} (hn : S 24 6 = nI n) (hc : n ≤ 60) (hp : p ≤ n) : ∃ S' p' ok', EvM kM_takesPart [.ref 24] (mk (TS S p true) R) none (mk S' R) ∧ PFr S S' ∧ S' 24 9 = nI p' ∧ S' 24 10 = b2i ok' ∧ PQ (S 28) n p p' ok' (S' 24 11) (S' 24 12) (S' 24 13) := by
  have c0 := ev_mhere S R (ok := true) hn hc (p := p) (by omega)
  -- the tape
  generalize ht : mhe (S 28) n p - 48 = t at *
  obtain ⟨S1, hS1⟩ : ∃ S1, S1 = u2 S 24 (upd (S 24) 11 t) := ⟨_, rfl⟩
  have hn1 : S1 24 6 = nI n := by rw [hS1, u2_same, upd_ne (by decide)]; exact hn
  have f1 : S1 28 = S 28 := by rw [hS1]; exact u2_ne (by decide)
  have m0 := ev_min (TS S1 p true) R t 0 7
  obtain ⟨p1, ok1, t1, a1, b1, l1⟩ := ev_mtakesX S1 R p true (mIn t 0 7)
  have c1 := ev_mhere S1 R (ok := ok1) hn1 hc (p := p1) (by omega)
  rw [f1] at c1
  -- the point
  generalize hq : mhe (S 28) n p1 - 97 = q at *
  obtain ⟨S2, hS2⟩ : ∃ S2, S2 = u2 S1 24 (upd (S1 24) 12 q) := ⟨_, rfl⟩
  have hn2 : S2 24 6 = nI n := by rw [hS2, u2_same, upd_ne (by decide)]; exact hn1
  have f2 : S2 28 = S 28 := by rw [hS2]; exact (u2_ne (by decide)).trans f1
  have m1 := ev_misPoint (TS S2 p1 ok1) R q
  obtain ⟨p2, ok2, t2, a2, b2, l2⟩ := ev_mtakesX S2 R p1 ok1 (isPt q)
  have c2 := ev_mhere S2 R (ok := ok2) hn2 hc (p := p2) (by omega)
  rw [f2] at c2
  -- the sign between
  obtain ⟨p3, ok3, t3, a3, b3, l3⟩ := ev_mtakesX S2 R p2 ok2 (decide (mhe (S 28) n p2 = 61))
  have s0 : mIn t 0 7 = true → p < n ∧ mhe (S 28) n p = S 28 p ∧ gF (S 28) n (n - p) p 0 = gF (S 28) n (n - (p + 1)) (p + 1) 1 := fun h => gF_ms (by decide) (by rw [gN0, ← mIn_tap, ht, h]; rfl)
  have s1 : isPt q = true → p1 < n ∧ mhe (S 28) n p1 = S 28 p1 ∧ gF (S 28) n (n - p1) p1 1 = gF (S 28) n (n - (p1 + 1)) (p1 + 1) 2 := fun h => gF_ms (by decide) (by rw [gN1, ← isPt_let, hq, h]; rfl)
  have s2 : decide (mhe (S 28) n p2 = 61) = true → p2 < n ∧ mhe (S 28) n p2 = S 28 p2 ∧ gF (S 28) n (n - p2) p2 2 = gF (S 28) n (n - (p2 + 1)) (p2 + 1) 3 := fun h => gF_ms (by decide) (by rw [gN2, h]; rfl)
  have h3 : ok3 = true → p3 ≤ n := fun h => by
    cases hd : decide (mhe (S 28) n p2 = 61) with
    | false => have := (a3 (Or.inr hd)).2; rw [this] at h; cases h
    | true => have := (s2 hd).1; omega
  obtain ⟨p', ok', v, t4, a4, b4⟩ := ev_mtakesNumberU S2 R (ok := ok3) hn2 hc (p := p3) (by omega) h3
  rw [f2] at b4
  refine ⟨u2 (TS S2 p' ok') 24 (upd (TS S2 p' ok' 24) 13 v), p', ok', ?_, ?_, ?_, ?_, ?_⟩
  · have e1 := TS_put S (p := p) (ok := true) (j := 11) (x := t) (by decide) (by decide)
    rw [← hS1] at e1
    have e2 := TS_put S1 (p := p1) (ok := ok1) (j := 12) (x := q) (by decide) (by decide)
    rw [← hS2] at e2
    have g1 : TS S1 p true 24 11 = t := by rw [TS_o S1 (by decide) (by decide), hS1, u2_same, upd_same]
    have g2 : TS S2 p1 ok1 24 12 = q := by rw [TS_o S2 (by decide) (by decide), hS2, u2_same, upd_same]
    refine EvM_mk [some (.ref 24)] rfl rfl rfl rfl rfl (trivial) ?_
    refine G_aload_n rfl rfl ?_
    refine G_aload_n rfl rfl ?_
    refine H_callV (c0) rfl rfl rfl rfl rfl rfl rfl rfl ?_
    refine G_bipush rfl ?_
    refine G_isub rfl ?_
    refine H_putI rfl rfl rfl rfl ?_
    refine G_aload_n rfl rfl ?_
    refine G_aload_n rfl rfl ?_
    refine H_getI rfl rfl rfl rfl ?_
    refine G_iconst rfl ?_
    refine G_bipush rfl ?_
    rw [ht, e1, g1]
    refine H_callS (m0) rfl rfl rfl rfl rfl ?_
    refine H_callU (t1) rfl rfl rfl rfl rfl rfl rfl rfl ?_
    refine G_aload_n rfl rfl ?_
    refine G_aload_n rfl rfl ?_
    refine H_callV (c1) rfl rfl rfl rfl rfl rfl rfl rfl ?_
    refine G_bipush rfl ?_
    refine G_isub rfl ?_
    refine H_putI rfl rfl rfl rfl ?_
    refine G_aload_n rfl rfl ?_
    refine G_aload_n rfl rfl ?_
    refine H_getI rfl rfl rfl rfl ?_
    rw [hq, e2, g2]
    refine H_callS (m1) rfl rfl rfl rfl rfl ?_
    refine H_callU (t2) rfl rfl rfl rfl rfl rfl rfl rfl ?_
    refine G_aload_n rfl rfl ?_
    refine G_aload_n rfl rfl ?_
    refine H_callV (c2) rfl rfl rfl rfl rfl rfl rfl rfl ?_
    refine G_bipush rfl ?_
    refine G_icmp_ne rfl (fun h => ?_) (fun h => ?_)
    · rw [decide_eq_false h] at t3
      refine G_iconst rfl ?_
      refine H_callU (t3) rfl rfl rfl rfl rfl rfl rfl rfl ?_
      refine G_aload_n rfl rfl ?_
      refine H_callU (t4) rfl rfl rfl rfl rfl rfl rfl rfl ?_
      exact H_retv rfl rfl (rfl)
    · rw [decide_eq_true (Decidable.of_not_not h)] at t3
      refine G_iconst rfl ?_
      refine G_goto rfl ?_
      refine H_callU (t3) rfl rfl rfl rfl rfl rfl rfl rfl ?_
      refine G_aload_n rfl rfl ?_
      refine H_callU (t4) rfl rfl rfl rfl rfl rfl rfl rfl ?_
      exact H_retv rfl rfl (rfl)
  · have k1 : PFr S S1 := by rw [hS1]; exact PFr_u (by decide)
    have k2 : PFr S1 S2 := by rw [hS2]; exact PFr_u (by decide)
    exact k1.tr (k2.tr (PFr_TS.tr (PFr_u (by decide))))
  · rw [u2_same, upd_ne (by decide)]; exact TS_9 S2
  · rw [u2_same, upd_ne (by decide)]; exact TS_10 S2
  · have z11 : u2 (TS S2 p' ok') 24 (upd (TS S2 p' ok' 24) 13 v) 24 11 = t := by rw [u2_same, upd_ne (by decide), TS_o S2 (by decide) (by decide), hS2, u2_same, upd_ne (by decide), hS1, u2_same, upd_same]
    have z12 : u2 (TS S2 p' ok') 24 (upd (TS S2 p' ok' 24) 13 v) 24 12 = q := by rw [u2_same, upd_ne (by decide), TS_o S2 (by decide) (by decide), hS2, u2_same, upd_same]
    have z13 : u2 (TS S2 p' ok') 24 (upd (TS S2 p' ok' 24) 13 v) 24 13 = v := by rw [u2_same, upd_same]
    rw [z11, z12, z13]
    cases h0 : mIn t 0 7 with
    | false =>
      obtain ⟨rfl, rfl⟩ := a1 (Or.inr h0)
      obtain ⟨rfl, rfl⟩ := a2 (Or.inl rfl)
      obtain ⟨rfl, rfl⟩ := a3 (Or.inl rfl)
      obtain ⟨rfl, rfl⟩ := a4 rfl
      refine ⟨Nat.le_refl _, hp, fun _ => gF_m hp (by decide) (by decide) ?_, fun z => by cases z⟩
      rw [gN0, ← mIn_tap, ht, h0]; rfl
    | true =>
      obtain ⟨n0, v0, g0⟩ := s0 h0
      obtain ⟨rfl, rfl⟩ := b1 rfl h0
      cases h1 : isPt q with
      | false =>
        obtain ⟨rfl, rfl⟩ := a2 (Or.inr h1)
        obtain ⟨rfl, rfl⟩ := a3 (Or.inl rfl)
        obtain ⟨rfl, rfl⟩ := a4 rfl
        refine ⟨by omega, by omega, fun _ => ?_, fun z => by cases z⟩
        rw [g0]
        refine gF_m (by omega) (by decide) (by decide) ?_
        rw [gN1, ← isPt_let, hq, h1]; rfl
      | true =>
        obtain ⟨n1, v1, g1⟩ := s1 h1
        obtain ⟨rfl, rfl⟩ := b2 rfl h1
        cases h2 : decide (mhe (S 28) n (p + 1 + 1) = 61) with
        | false =>
          obtain ⟨rfl, rfl⟩ := a3 (Or.inr h2)
          obtain ⟨rfl, rfl⟩ := a4 rfl
          refine ⟨by omega, by omega, fun _ => ?_, fun z => by cases z⟩
          rw [g0, g1]
          refine gF_m (by omega) (by decide) (by decide) ?_
          rw [gN2, h2]; rfl
        | true =>
          obtain ⟨n2, v2, g2⟩ := s2 h2
          obtain ⟨rfl, rfl⟩ := b3 rfl h2
          obtain ⟨w1, w2, w3, w4⟩ := b4 rfl
          refine ⟨by omega, w2, fun z => ?_, fun z => ?_⟩
          · rw [g0, g1, g2]; exact w3 z
          · obtain ⟨y1, y2, s, y3, y4, y5, y6, y7, y8⟩ := w4 z
            refine ⟨by omega, by rw [← ht, v0], by rw [← hq, v1], y2, s, y3, y4, by rw [g0, g1, g2]; exact y5, y6, y7, fun j j1 j2 => ?_⟩
            rw [decide_eq_true_eq, v2] at h2
            rw [v0] at ht
            rw [v1] at hq
            by_cases q1 : j = p
            · subst q1
              intro k
              rw [← ht, k] at h0
              exact absurd h0 (by decide)
            by_cases q2 : j = p + 1
            · subst q2
              intro k
              rw [← hq, k] at h1
              exact absurd h1 (by decide)
            by_cases q3 : j = p + 1 + 1
            · subst q3
              rw [h2]; decide
            · exact y8 j (by omega) j2
end MT4
