/-! both objects side by side: what they have in common, kept by looks and by deeds -/
def GRow (row : Nat → Int32) (T : Nat) (s : Nat → Int32) : Prop := CR row T s ∧ (∃ π, Pot row π) ∧ cnt (hs row) 96 ≤ 40
theorem hs_cg {row row' : Nat → Int32} {j : Nat} (h : row' j = row j) : hs row' j = hs row j := by unfold hs; rw [h]
theorem GRow_cg {row row' s s' : Nat → Int32} {T : Nat} (hr : ∀ j, j < 101 → row' j = row j) (hs' : ∀ j, j < 102 → s' j = s j) (h : GRow row T s) : GRow row' T s' := by
  obtain ⟨⟨⟨a1, a2, a3⟩, b, c1, c2, c3, c4, c5, c6, c7⟩, ⟨π, hπ⟩, h40⟩ := h
  have eh : ∀ j, j < 96 → hs row' j = hs row j := fun j hj => hs_cg (hr j (by omega))
  have ec : cnt (hs row') 96 = cnt (hs row) 96 := cnt_congr (fun i hi => eh i hi)
  refine ⟨⟨⟨by rw [hr 96 (by decide)]; exact a1, a2, fun j h1 h2 => by rw [hr j (by omega)]; exact a3 j h1 h2⟩, fun j hj hh => ?_, by rw [hs' 0 (by decide)]; exact c1, by rw [hs' 1 (by decide), ec]; exact c2, by rw [hs' 2 (by decide), hr 97 (by decide)]; exact c3, by rw [hs' 3 (by decide), hr 98 (by decide)]; exact c4, by rw [hs' 4 (by decide), hr 99 (by decide)]; exact c5, by rw [hs' 5 (by decide), hr 100 (by decide)]; exact c6, fun j hj => by rw [hs' (6 + j) (by omega), hr j (by omega)]; exact c7 j hj⟩, ⟨π, fun j hj hh => ?_⟩, by rw [ec]; exact h40⟩
  · rw [hr j (by omega)]; rw [eh j hj] at hh; exact b j hj hh
  · rw [hr j (by omega)]; rw [eh j hj] at hh; exact hπ j hj hh
def CPh (S : Nat → Nat → Int32) (R : Nat → Nat) (n : Nat) : Prop := S 3 1 = nI n ∧ n ≤ 4 ∧ S 24 2 = nI n ∧ ∀ k, k < n → ∃ T, GRow (S (R k)) T (fun j => S 26 (102 * k + j))
def CPs (S : Nat → Nat → Int32) : Prop := ∃ sv : Bool, S 0 3 = b2i sv ∧ S 24 4 = b2i sv ∧ (sv = true → ∃ T, GRow (S 9) T (S 27))
def CPp (S : Nat → Nat → Int32) : Prop := ∃ m : Nat, S 10 1 = nI m ∧ S 24 6 = nI m ∧ m ≤ 60 ∧ S 11 = S 28
def CPt (S : Nat → Nat → Int32) : Prop := ∃ sp : Bool, S 0 6 = b2i sp ∧ S 24 14 = b2i sp ∧ (sp = true → ∀ j, j < 3 → S 12 j = S 31 j)
def CP (S : Nat → Nat → Int32) (R : Nat → Nat) : Prop := RO R ∧ (∃ T, GRow (S 2) T (S 25)) ∧ (∃ n, CPh S R n) ∧ CPs S ∧ CPp S ∧ CPt S
/-- all that matters is the same -/
def SIm (S S2 : Nat → Nat → Int32) : Prop := (∀ i, i ∉ scr → i ≠ 24 → i ≠ 29 → i ≠ 30 → S2 i = S i) ∧ ∀ j, j = 2 ∨ j = 4 ∨ j = 6 ∨ j = 14 → S2 24 j = S 24 j
theorem SIm.tr {S S1 S2 : Nat → Nat → Int32} (h1 : SIm S S1) (h2 : SIm S1 S2) : SIm S S2 := ⟨fun i a b c d => (h2.1 i a b c d).trans (h1.1 i a b c d), fun j a => (h2.2 j a).trans (h1.2 j a)⟩
theorem SIm.rf {S : Nat → Nat → Int32} : SIm S S := ⟨fun _ _ _ _ _ => rfl, fun _ _ => rfl⟩
theorem SIm_L {S S1 : Nat → Nat → Int32} (h : LK S S1) : SIm S S1 := ⟨fun i a _ _ _ => h i a, fun j _ => by rw [h 24 (by decide)]⟩
theorem SIm_s {S S1 : Nat → Nat → Int32} (h : sFr S S1) : SIm S S1 := ⟨fun i _ _ c d => h i c d, fun j _ => by rw [h 24 (by decide) (by decide)]⟩
theorem SIm_m {S S1 : Nat → Nat → Int32} (h : mFr S S1) : SIm S S1 := ⟨fun i _ b c d => h.1 i b c d, fun j a => h.2 j (by omega) (by omega) (by omega)⟩
theorem SIm_P {S S1 : Nat → Nat → Int32} (h : PFr S S1) : SIm S S1 := ⟨fun i _ b _ _ => h.1 i b, fun j a => h.2 j (by omega)⟩
theorem scr_R {R : Nat → Nat} (hR : RO R) {k : Nat} (hk : k < 4) : R k ∉ scr ∧ R k ≠ 24 ∧ R k ≠ 29 ∧ R k ≠ 30 := by
  have h := hR.1 k hk
  refine ⟨?_, by omega, by omega, by omega⟩
  rcases (show R k = 5 ∨ R k = 6 ∨ R k = 7 ∨ R k = 8 by omega) with e | e | e | e <;> rw [e] <;> decide
theorem CP_look {S S2 : Nat → Nat → Int32} {R : Nat → Nat} (h : CP S R) (hi : SIm S S2) : CP S2 R := by
  obtain ⟨hR, ⟨T, hT⟩, ⟨n, h1, h2, h3, h4⟩, ⟨sv, s1, s2, s3⟩, ⟨m, p1, p2, p3, p4⟩, sp, t1, t2, t3⟩ := h
  have e : ∀ i, i ∉ scr → i ≠ 24 → i ≠ 29 → i ≠ 30 → S2 i = S i := hi.1
  have e2 := e 2 (by decide) (by decide) (by decide) (by decide)
  have e25 := e 25 (by decide) (by decide) (by decide) (by decide)
  have e26 := e 26 (by decide) (by decide) (by decide) (by decide)
  have e27 := e 27 (by decide) (by decide) (by decide) (by decide)
  have e9 := e 9 (by decide) (by decide) (by decide) (by decide)
  have e0 := e 0 (by decide) (by decide) (by decide) (by decide)
  have e10 := e 10 (by decide) (by decide) (by decide) (by decide)
  refine ⟨hR, ⟨T, by rw [e2, e25]; exact hT⟩, ⟨n, ?_, h2, ?_, fun k hk => ?_⟩, ⟨sv, ?_, ?_, fun z => ?_⟩, ⟨m, ?_, ?_, p3, ?_⟩, sp, ?_, ?_, fun z j hj => ?_⟩
  · rw [e 3 (by decide) (by decide) (by decide) (by decide)]; exact h1
  · rw [hi.2 2 (by decide)]; exact h3
  · obtain ⟨q1, q2, q3, q4⟩ := scr_R hR (show k < 4 by omega)
    rw [e (R k) q1 q2 q3 q4, e26]
    exact h4 k hk
  · rw [e0]; exact s1
  · rw [hi.2 4 (by decide)]; exact s2
  · rw [e9, e27]; exact s3 z
  · rw [e10]; exact p1
  · rw [hi.2 6 (by decide)]; exact p2
  · rw [e 11 (by decide) (by decide) (by decide) (by decide), e 28 (by decide) (by decide) (by decide) (by decide)]; exact p4
  · rw [e0]; exact t1
  · rw [hi.2 14 (by decide)]; exact t2
  · rw [e 12 (by decide) (by decide) (by decide) (by decide), e 31 (by decide) (by decide) (by decide) (by decide)]; exact t3 z j hj
/-- the history holds one state more in both -/
theorem CP_hist {S S2 : Nat → Nat → Int32} {R : Nat → Nat} {n T : Nat} (hR : RO R) (hT : GRow (S 2) T (S 25)) (h : CPh S R n) (h3 : S2 3 1 = recS S R n 3 1) (hr : ∀ k, k < 4 → S2 (recR R n k) = recS S R n (recR R n k)) (hm : HM S S2 n) : CPh S2 (recR R n) (recN n + 1) := by
  obtain ⟨a1, a2, a3, a4⟩ := h
  obtain ⟨m1, m2, m3⟩ := hm
  have hN : recN n < 4 := by unfold recN; split <;> omega
  have hR' := RO_rec hR n
  refine ⟨?_, by omega, m1, fun k hk => ?_⟩
  · rw [h3]; unfold recS; rw [u2_same, upd_same]
  · rw [hr k (by omega)]
    have k3 : recR R n k ≠ 3 := by have := hR'.1 k (by omega); omega
    by_cases e : k = recN n
    · subst e
      refine ⟨T, GRow_cg (fun j hj => ?_) (fun j hj => m2 j hj) hT⟩
      unfold recS
      rw [u2_ne k3, u2_same]
      exact if_pos hj
    · have hk' : k < recN n := by omega
      have hne : recR R n k ≠ recR R n (recN n) := fun q => e (hR'.2 k (recN n) (by omega) hN q)
      obtain ⟨T', hT'⟩ := a4 (if n < 4 then k else k + 1) (by
        unfold recN at hk'
        by_cases z : n < 4
        · rw [if_pos z] at hk' ⊢; exact hk'
        · rw [if_neg z] at hk' ⊢; omega)
      refine ⟨T', GRow_cg (fun j hj => ?_) (fun j hj => m3 k hk' j hj) hT'⟩
      unfold recS
      rw [u2_ne k3, u2_ne hne]
      unfold recR
      by_cases z : n < 4
      · rw [if_pos z, if_pos z]
      · rw [if_neg z, if_neg z]
        have hk3 : k < 3 := by unfold recN at hk'; rw [if_neg z] at hk'; exact hk'
        rcases (show k = 0 ∨ k = 1 ∨ k = 2 by omega) with rfl | rfl | rfl <;> rfl
theorem rec_o {S : Nat → Nat → Int32} {R : Nat → Nat} (hR : RO R) {n i : Nat} (hn4 : n ≤ 4) (h : i < 3 ∨ i = 4 ∨ 8 < i) : recS S R n i = S i := rec_ne S R hR hn4 h
theorem CP_deed {S S1 S2 : Nat → Nat → Int32} {R : Nat → Nat} {n T' : Nat} {row' : Nat → Int32} (h : CP S R) (hn : S 3 1 = nI n) (hn4 : n ≤ 4) (hx : XF S R n S1 row') (hm : MD S1 S2 n row' T') (hπ : ∃ π, Pot row' π) (h40 : cnt (hs row') 96 ≤ 40) : CP S2 (recR R n) := by
  obtain ⟨hR, ⟨T, hT⟩, ⟨n', hh⟩, ⟨sv, s1, s2, s3⟩, ⟨m, p1, p2, p3, p4⟩, sp, t1, t2, t3⟩ := h
  have en : n' = n := (nI_eq (show n' < 2 ^ 31 by have := hh.2.1; omega) (show n < 2 ^ 31 by omega)).mp (hh.1.symm.trans hn)
  subst en
  obtain ⟨x2, xo⟩ := hx
  obtain ⟨S0, ⟨r1, r2, r3, r4, r5⟩, f0, hC⟩ := hm
  have hR' := RO_rec hR n'
  have hN : recN n' < 4 := by unfold recN; split <;> omega
  -- cells that neither touches
  have e : ∀ i, i ∉ scr → i ≠ 2 → i ≠ 24 → i ≠ 25 → i ≠ 26 → i ≠ 29 → i ≠ 30 → S2 i = recS S R n' i := fun i q1 q2 q3 q4 q5 q6 q7 => by
    rw [f0 i q4 q6 q7, r1 i q3 q5, xo i q1 q2]
  have e' : ∀ i, i ∉ scr → i ≠ 2 → i ≠ 24 → i ≠ 25 → i ≠ 26 → i ≠ 29 → i ≠ 30 → (i < 3 ∨ i = 4 ∨ 8 < i) → S2 i = S i := fun i q1 q2 q3 q4 q5 q6 q7 q8 => (e i q1 q2 q3 q4 q5 q6 q7).trans (rec_o hR hn4 q8)
  have m1 : ∀ i, 23 < i → i ≠ 24 → S1 i = S i := fun i q _ => by
    rw [xo i (by simp only [scr, List.mem_cons, List.not_mem_nil, or_false]; omega) (by omega)]
    exact rec_o hR hn4 (by omega)
  have m24 : S1 24 = S 24 := by rw [xo 24 (by decide) (by decide)]; exact rec_o hR hn4 (by decide)
  have e24 : ∀ j, j ≠ 2 → S2 24 j = S 24 j := fun j hj => by rw [f0 24 (by decide) (by decide) (by decide), r2 j hj, m24]
  have hHM : HM S S2 n' := ⟨by rw [f0 24 (by decide) (by decide) (by decide)]; exact r3, fun j hj => by rw [f0 26 (by decide) (by decide) (by decide), r4 j hj, m1 25 (by decide) (by decide)], fun k hk j hj => by rw [f0 26 (by decide) (by decide) (by decide), r5 k hk j hj, m1 26 (by decide) (by decide)]⟩
  refine ⟨hR', ⟨T', ?_⟩, ⟨_, CP_hist hR hT hh ?_ (fun k hk => ?_) hHM⟩, ⟨sv, ?_, ?_, fun z => ?_⟩, ⟨m, ?_, ?_, p3, ?_⟩, sp, ?_, ?_, fun z j hj => ?_⟩
  · rw [f0 2 (by decide) (by decide) (by decide), r1 2 (by decide) (by decide), x2]
    exact ⟨hC, hπ, h40⟩
  · rw [e 3 (by decide) (by decide) (by decide) (by decide) (by decide) (by decide) (by decide)]
  · obtain ⟨q1, q2, q3, q4⟩ := scr_R hR' hk
    have := hR'.1 k hk
    exact e _ q1 (by omega) q2 (by omega) (by omega) q3 q4
  · rw [e' 0 (by decide) (by decide) (by decide) (by decide) (by decide) (by decide) (by decide) (by decide)]; exact s1
  · rw [e24 4 (by decide)]; exact s2
  · rw [e' 9 (by decide) (by decide) (by decide) (by decide) (by decide) (by decide) (by decide) (by decide), f0 27 (by decide) (by decide) (by decide), r1 27 (by decide) (by decide), m1 27 (by decide) (by decide)]; exact s3 z
  · rw [e' 10 (by decide) (by decide) (by decide) (by decide) (by decide) (by decide) (by decide) (by decide)]; exact p1
  · rw [e24 6 (by decide)]; exact p2
  · rw [e' 11 (by decide) (by decide) (by decide) (by decide) (by decide) (by decide) (by decide) (by decide), f0 28 (by decide) (by decide) (by decide), r1 28 (by decide) (by decide), m1 28 (by decide) (by decide)]; exact p4
  · rw [e' 0 (by decide) (by decide) (by decide) (by decide) (by decide) (by decide) (by decide) (by decide)]; exact t1
  · rw [e24 14 (by decide)]; exact t2
  · rw [e' 12 (by decide) (by decide) (by decide) (by decide) (by decide) (by decide) (by decide) (by decide), f0 31 (by decide) (by decide) (by decide), r1 31 (by decide) (by decide), m1 31 (by decide) (by decide)]; exact t3 z j hj
/-! counts of readings -/
theorem cnt_sub {f g : Nat → Bool} : ∀ {n : Nat}, (∀ i, i < n → g i = true → f i = true) → cnt g n ≤ cnt f n
  | 0, _ => Nat.le_refl 0
  | n + 1, h => by
    have ih := cnt_sub (f := f) (g := g) (n := n) (fun i hi => h i (by omega))
    have := h n (by omega)
    rw [cnt, cnt]
    cases hg : g n with
    | false => rw [cond_false]; cases f n <;> simp <;> omega
    | true => rw [this hg]; omega
theorem n40_tRem {X : Nat → Int32} {b : Nat} (hb : b < 8) : cnt (hs (tRem X b)) 96 + cnt (fun i => hs X (b * 12 + i)) 12 = cnt (hs X) 96 := by
  have e1 : cnt (hs (tRem X b)) (b * 12) = cnt (hs X) (b * 12) := cnt_congr (fun i hi => hs_cg (by rw [tRem_at (by omega), if_neg (by omega)]))
  have e3 : cnt (hs (tRem X b)) 96 = cnt (hs (tRem X b)) 84 := cnt_cut (f := hs (tRem X b)) (a := 84) 12 (fun i q1 q2 => by unfold hs; rw [tRem_at (by omega), if_pos (by omega), if_neg (by omega)]; rfl)
  have e4 : cnt (hs (tRem X b)) 84 = cnt (hs (tRem X b)) (b * 12) + cnt (fun i => hs (tRem X b) (b * 12 + i)) (84 - b * 12) := by
    rw [← cnt_add, show b * 12 + (84 - b * 12) = 84 by omega]
  have e5 : cnt (hs X) 96 = cnt (hs X) (b * 12 + 12) + cnt (fun i => hs X (b * 12 + 12 + i)) (84 - b * 12) := by
    rw [← cnt_add, show b * 12 + 12 + (84 - b * 12) = 96 by omega]
  have e6 : cnt (hs X) (b * 12 + 12) = cnt (hs X) (b * 12) + cnt (fun i => hs X (b * 12 + i)) 12 := cnt_add _ _ _
  have e7 : cnt (fun i => hs (tRem X b) (b * 12 + i)) (84 - b * 12) = cnt (fun i => hs X (b * 12 + 12 + i)) (84 - b * 12) := cnt_congr (fun i hi => by
    unfold hs
    rw [tRem_at (by omega), if_pos (by omega), if_pos (by omega), show b * 12 + i + 12 = b * 12 + 12 + i by omega])
  omega
theorem n40_cm {row : Nat → Int32} {a b : Nat} {dx : Int32} : ∀ i, cnt (hs (cmR row b a dx i)) 96 ≤ cnt (hs row) 96 + cmN row b a dx i
  | 0 => Nat.le_of_eq (by rw [cmR, cmN, Nat.add_zero])
  | i + 1 => by
    have ih := n40_cm (row := row) (a := a) (b := b) (dx := dx) i
    rw [cmR, cmN, cmS]
    cases cmP (cmR row b a dx i) b a i with
    | false => exact ih
    | true =>
      rw [cond_true, cond_true]
      have := (cnt_1 (f := hs (cmR row b a dx i)) (g := hs (upd (cmR row b a dx i) (a * 12 + i) (cmR row b a dx i (b * 12 + i) + dx))) (j := a * 12 + i) (fun y hy => by rw [hs_up2, if_neg hy]) 96).2
      omega
theorem n40_gl {row : Nat → Int32} {a b : Nat} {dx : Int32} (hb : b < 8) (hab : a ≠ b) : cnt (hs (glX row a b dx)) 96 ≤ cnt (hs row) 96 := by
  unfold glX
  rw [cnt_hi (by decide)]
  have h1 := n40_tRem (X := cmR row b a dx 12) hb
  have h2 := n40_cm (row := row) (a := a) (b := b) (dx := dx) 12
  have h3 := cmN_c (row := row) (a := a) (b := b) (dx := dx) hab 12 (Nat.le_refl 12)
  have h4 : cnt (cmB row b a) 12 ≤ cnt (fun i => hs (cmR row b a dx 12) (b * 12 + i)) 12 := cnt_sub (fun i hi h => by
    unfold cmB at h
    rw [Bool.and_eq_true] at h
    rw [hs_cg (cmR_at 12 (b * 12 + i) (Nat.le_refl 12) (by omega))]
    exact h.1)
  omega
theorem n40_mv {row : Nat → Int32} {a b : Nat} {x : Int32} (ha : a < 8) (hab : a ≠ b) : ∀ i, i ≤ 12 → cnt (hs (mvR row a b x i)) 96 ≤ cnt (hs row) 96
  | 0, _ => Nat.le_refl _
  | i + 1, hi => by
    have ih := n40_mv (row := row) (x := x) ha hab i (by omega)
    rw [mvR, mvS]
    generalize mvR row a b x i = X at *
    cases hp : mvP X a x i with
    | false => exact ih
    | true =>
      rw [cond_true]
      unfold mvP at hp
      rw [Bool.and_eq_true] at hp
      have h1 := (cnt_1 (f := hs X) (g := hs (upd X (b * 12 + i) (X (a * 12 + i) - x))) (j := b * 12 + i) (fun y hy => by rw [hs_up2, if_neg hy]) 96).2
      have h2 := cnt_up (f := hs (upd (upd X (b * 12 + i) (X (a * 12 + i) - x)) (a * 12 + i) NONE)) (g := hs (upd X (b * 12 + i) (X (a * 12 + i) - x))) (x := a * 12 + i) (by rw [hs_up2, if_pos rfl]; rfl) (by rw [hs_up2, if_neg (show ¬ a * 12 + i = b * 12 + i by omega)]; exact hp.1) (fun y hy => (hs_cg (upd_ne hy)).symm) (show a * 12 + i < 96 by omega)
      omega
theorem n40_sh {row : Nat → Int32} {a : Nat} {x : Int32} : cnt (hs (shR row a x 12)) 96 ≤ cnt (hs row) 96 := cnt_sub (fun j _ h => by
  cases e : hs row j with
  | true => rfl
  | false =>
    have : hs (shR row a x 12) j = false := (hs_cg (by rw [shR_val, if_neg (fun z => by rw [e] at z; cases z.2.2)])).trans e
    rw [this] at h
    cases h)
theorem n40_lose {row : Nat → Int32} {j : Nat} : cnt (hs (upd row j NONE)) 96 ≤ cnt (hs row) 96 := cnt_sub (fun i _ h => by
  rw [hs_up2] at h
  split at h
  · cases h
  · exact h)
