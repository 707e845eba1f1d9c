/-! places stay told when a reading comes; take -/
theorem Pot_ext {row π : Nat → Int32} {a p : Nat} {x : Int32} (hp : p < 12) (hπ : Pot row π) (hc : Cn row (12 + a) p → π p - π (12 + a) = x) : ∃ π', Pot (upd row (a * 12 + p) x) π' := by
  by_cases c : Cn row (12 + a) p
  · refine ⟨π, fun j hj hh => ?_⟩
    by_cases e : j = a * 12 + p
    · rw [e, upd_same, show (a * 12 + p) % 12 = p by omega, show (a * 12 + p) / 12 = a by omega, hc c]
    · rw [upd_ne e]
      refine hπ j hj ?_
      unfold hs at hh ⊢
      rw [upd_ne e] at hh
      exact hh
  · refine ⟨fun y => bif cB row p y then π y + (x - (π p - π (12 + a))) else π y, fun j hj hh => ?_⟩
    by_cases e : j = a * 12 + p
    · have e1 : cB row p (12 + a) = false := by
        cases h : cB row p (12 + a)
        · rfl
        · exact absurd (cB_iff.mp h).sy c
      rw [e, upd_same, show (a * 12 + p) % 12 = p by omega, show (a * 12 + p) / 12 = a by omega]
      show x = (bif cB row p p then _ else _) - (bif cB row p (12 + a) then _ else _)
      rw [cB_iff.mpr Cn.rf, e1, cond_true, cond_false]
      grind
    · have hh : hs row j = true := by unfold hs at hh ⊢; rw [upd_ne e] at hh; exact hh
      have h1 : cB row p (12 + j / 12) = cB row p (j % 12) := cB_eq ⟨fun h A k hA => (k j hj hh).mp (cB_iff.mp h A k hA), fun h => cB_iff.mpr (fun A k hA => (k j hj hh).mpr (h A k hA))⟩
      rw [upd_ne e, hπ j hj hh]
      show _ = (bif cB row p (j % 12) then _ else _) - (bif cB row p (12 + j / 12) then _ else _)
      rw [h1]
      cases cB row p (j % 12)
      · rfl
      · rw [cond_true, cond_true]; grind
theorem Pot_u {row π : Nat → Int32} {j : Nat} {v : Int32} (hj : 96 ≤ j) (h : Pot row π) : Pot (upd row j v) π := fun i hi hh => by
  rw [upd_ne (by omega)]
  refine h i hi ?_
  unfold hs at hh ⊢
  rw [upd_ne (by omega)] at hh
  exact hh
theorem NT_u {row : Nat → Int32} {T j : Nat} {v : Int32} (hj : 96 < j ∨ j < T * 12) (h : NT row T) : NT (upd row j v) T := by
  have := h.2.1
  exact ⟨by rw [upd_ne (by omega)]; exact h.1, h.2.1, fun i h1 h2 => by rw [upd_ne (by omega)]; exact h.2.2 i h1 h2⟩
theorem EN_good {row row' : Nat → Int32} {T a p : Nat} {x r : Int32} (h : EN row T a p x r row') (hT : NT row T) (ha : a < T) (hp : p < 12) (hπ : ∃ π, Pot row π) : NT row' T ∧ ∃ π, Pot row' π := by
  obtain ⟨rs, hr, h1, h2⟩ := h
  obtain ⟨π, hπ⟩ := hπ
  by_cases h0 : rs = 0
  · subst h0
    obtain ⟨rfl, -⟩ := h2 rfl
    have hf : hs row (a * 12 + p) = false := by
      cases e : hs row (a * 12 + p)
      · rfl
      · exact absurd (hr.1 e) (by decide)
    obtain ⟨-, hg⟩ := hr.2 hf
    obtain ⟨π', h'⟩ := Pot_ext (a := a) (x := x) hp hπ (fun c => Decidable.byContradiction fun q => absurd ((hg c π hπ).2 q) (by decide))
    exact ⟨NT_u (Or.inl (by decide)) (NT_u (Or.inr (by omega)) hT), π', Pot_u (by decide) h'⟩
  · obtain ⟨-, rfl⟩ := h1 h0
    exact ⟨NT_u (Or.inl (by decide)) hT, π, Pot_u (by decide) hπ⟩
theorem TP_good {row row' : Nat → Int32} {T : Nat} {t p x r : Int32} (h : TP row T t p x r row') (hT : NT row T) (hπ : ∃ π, Pot row π) : NT row' T ∧ ∃ π, Pot row' π := by
  cases hr : rdOK row t p x with
  | false => obtain ⟨-, rfl⟩ := h.1 hr; exact ⟨hT, hπ⟩
  | true =>
    by_cases h4 : tAll row T < 40
    · obtain ⟨a, b, -, -, ha, hb, en⟩ := (h.2 hr).2 h4
      exact EN_good en hT ha hb hπ
    · obtain ⟨-, rfl⟩ := (h.2 hr).1 h4; exact ⟨hT, hπ⟩
/-- the states of the automaton, sign by sign -/
def gSt (f : Nat → Int32) : Nat → Option Nat
  | 0 => some 0
  | i + 1 => (gSt f i).bind (fun s => gN s (f i))
theorem nI_m4 {n : Nat} (h : n ≤ 60) : nI n ≠ -4 := fun q => nI_pos (show n < 2 ^ 31 by omega) (by rw [q]; decide)
theorem gF_run {f : Nat → Int32} {n : Nat} (hn : n ≤ 60) : ∀ d i s, gF f n d i s = -4 → i + d = n → gSt f i = some s → (∀ j, i ≤ j → j ≤ n → ∃ q, gSt f j = some q) ∧ ∃ q, gSt f n = some q ∧ 5 ≤ q
  | 0, i, s, h, hi, hs => by
    rw [gF] at h
    have e : i = n := by omega
    subst e
    by_cases h5 : 5 ≤ s
    · exact ⟨fun j h1 h2 => ⟨s, by rw [show j = i by omega]; exact hs⟩, s, hs, h5⟩
    · rw [if_neg h5] at h
      exact absurd h (nI_m4 hn)
  | d + 1, i, s, h, hi, hs => by
    rw [gF] at h
    have e : gSt f (i + 1) = gN s (f i) := by rw [gSt, hs]; rfl
    cases hg : gN s (f i) with
    | none => rw [hg] at h; exact absurd h (nI_m4 (by omega))
    | some s' =>
      rw [hg] at h e
      obtain ⟨h1, h2⟩ := gF_run hn d (i + 1) s' h (by omega) e
      refine ⟨fun j j1 j2 => ?_, h2⟩
      by_cases ej : j = i
      · exact ⟨s, by rw [ej]; exact hs⟩
      · exact h1 j (by omega) j2
theorem gN_0 {s : Int32} {j : Nat} (h : gN 0 s = some j) : j = 1 := by
  rw [show gN 0 s = bif decide (¬ s < 48) && decide (¬ 55 < s) then some 1 else none from rfl] at h
  cases hb : decide (¬ s < 48) && decide (¬ 55 < s) with
  | true => rw [hb] at h; cases h; rfl
  | false => rw [hb] at h; cases h
theorem gN_1 {s : Int32} {j : Nat} (h : gN 1 s = some j) : j = 2 := by
  rw [show gN 1 s = bif decide (¬ s < 97) && decide (¬ 108 < s) then some 2 else none from rfl] at h
  cases hb : decide (¬ s < 97) && decide (¬ 108 < s) with
  | true => rw [hb] at h; cases h; rfl
  | false => rw [hb] at h; cases h
theorem gN_44 : ∀ {s j : Nat}, gN s 44 = some j → j = 0
  | 0, _, h => by cases h
  | 1, _, h => by cases h
  | 2, _, h => by cases h
  | 3, _, h => by cases h
  | 4, _, h => by cases h
  | 5, _, h => by cases h; rfl
  | 6, _, h => by cases h; rfl
  | _ + 7, _, h => by cases h; rfl
theorem st0_3 {f : Nat → Int32} {n i : Nat} (all : ∀ j, 0 ≤ j → j ≤ n → ∃ q, gSt f j = some q) (fin : ∃ q, gSt f n = some q ∧ 5 ≤ q) (h0 : gSt f i = some 0) (hi : i ≤ n) : i + 3 ≤ n := by
  refine Decidable.byContradiction fun hb => ?_
  obtain ⟨q, hq, h5⟩ := fin
  have e0 : n ≠ i := fun e => by rw [e, h0] at hq; cases hq; omega
  have s1 : ∀ j, gSt f (i + 1) = some j → j = 1 := fun j h => by rw [gSt, h0] at h; exact gN_0 h
  have e1 : n ≠ i + 1 := fun e => by rw [e] at hq; have := s1 q hq; omega
  obtain ⟨q1, h1⟩ := all (i + 1) (by omega) (by omega)
  have : q1 = 1 := s1 q1 h1
  subst this
  have e2 : n = i + 2 := by omega
  rw [e2, gSt, h1] at hq
  have := gN_1 hq
  omega
theorem sOf_cm (f : Nat → Int32) (k : Nat) : ∀ i, (sOf f k i).2 = 0 ∨ ∃ j, j < i ∧ f j = 44 ∧ (sOf f k i).2 = j + 1
  | 0 => Or.inl rfl
  | i + 1 => by
    have ih : (sOf f k i).2 = 0 ∨ ∃ j, j < i + 1 ∧ f j = 44 ∧ (sOf f k i).2 = j + 1 := (sOf_cm f k i).imp id fun ⟨j, h1, h2⟩ => ⟨j, by omega, h2⟩
    rw [sOf]
    split
    · split
      · next h => exact Or.inr ⟨i, by omega, h, rfl⟩
      · exact ih
    · exact ih
theorem start_0 {f : Nat → Int32} {n : Nat} (hn : n ≤ 60) (h : gF f n n 0 0 = -4) (k : Nat) : gSt f (sOf f k n).2 = some 0 := by
  obtain ⟨all, fin⟩ := gF_run hn n 0 0 h (by omega) rfl
  obtain e | ⟨j, h1, h2, e⟩ := sOf_cm f k n
  · rw [e]; rfl
  · rw [e]
    obtain ⟨q, hq⟩ := all j (by omega) (by omega)
    obtain ⟨q1, h3⟩ := all (j + 1) (by omega) (by omega)
    have h4 := h3
    rw [gSt, hq, h2] at h4
    rw [h3, gN_44 h4]
theorem start_3 {f : Nat → Int32} {n : Nat} (hn : n ≤ 60) (h : gF f n n 0 0 = -4) (k : Nat) : (sOf f k n).2 + 3 ≤ n := by
  obtain ⟨all, fin⟩ := gF_run hn n 0 0 h (by omega) rfl
  exact st0_3 all fin (start_0 hn h k) (sOf_le f k n).2
/-- the readings of a text, l of them to go, the k-th first: how many are taken, what stops it, the table then -/
def TK (f : Nat → Int32) (n T : Nat) : Nat → Nat → (Nat → Int32) → Nat → Option Int32 → (Nat → Int32) → Prop
  | 0, k, row, tk, st, row' => tk = k ∧ st = none ∧ row' = row
  | l + 1, k, row, tk, st, row' => ∃ r row1, TP row T (f (sOf f k n).2 - 48) (f ((sOf f k n).2 + 1) - 97) (nvx f n ((sOf f k n).2 + 3)) r row1 ∧ (10 < r → TK f n T l (k + 1) row1 tk st row') ∧ (¬ 10 < r → tk = k ∧ st = some r ∧ row' = row1)
def TF (f : Nat → Int32) (n : Nat) (S S' : Nat → Nat → Int32) (tk : Nat) (st : Option Int32) (row' : Nat → Int32) : Prop := S' 2 = row' ∧ (∀ i, i ∉ scr → i ≠ 0 → i ≠ 2 → i ≠ 10 → i ≠ 12 → S' i = S i) ∧ S' 10 = upd (S 10) 1 0 ∧ (st = none → S' 0 = S 0 ∧ S' 12 = S 12) ∧ ∀ r, st = some r → S' 0 = upd (S 0) 6 1 ∧ S' 12 = upd (upd (upd (S 12) 0 r) 1 (nI tk)) 2 (nI (sOf f tk n).2)
set_option maxRecDepth 100000 in
theorem tk_loop (R : Nat → Nat) {f : Nat → Int32} {n T P : Nat} (hc : n ≤ 60) (hg : ∀ k, (sOf f k n).2 + 3 ≤ n) (hP : P ≤ 61) : ∀ (l k : Nat) (S : Nat → Nat → Int32), S 10 1 = nI n → S 11 = f → NT (S 2) T → (∃ π, Pot (S 2) π) → S 0 6 = 0 → k + l = P → ∀ l4 l5, ∃ S' tk st row', Gm kX_take 43 [some (.ref 0), some (.int (nI P)), some (.int (nI k)), some (.int (nI k)), l4, l5] [] (S, PF R, 24) (some (.int (nI tk))) (S', PF R, 24) ∧ TK f n T l k (S 2) tk st row' ∧ TF f n S S' tk st row'
  | 0, k, S, hn, hf, hT, hπ, h06, hk, l4, l5 => by
    have hx : XQ 10 11 60 := Or.inl ⟨rfl, rfl, rfl⟩
    refine ⟨u2 S 10 (upd (S 10) 1 0), k, none, S 2, ?_, ⟨rfl, rfl, rfl⟩, u2_ne (by decide), fun i _ _ _ h _ => u2_ne h, u2_same, fun _ => ⟨u2_ne (by decide), u2_ne (by decide)⟩, fun r h => by cases h⟩
    have e : P = k := by omega
    subst e
    refine G_iload_n rfl rfl ?_
    refine G_iload_n rfl rfl ?_
    refine G_icmp_ge rfl (fun h => ?_) (fun h => ?_)
    · skip
      refine G_aload_n rfl rfl ?_
      refine H_getR rfl rfl rfl rfl rfl rfl ?_
      refine H_callU (ev_xempty hx S R) rfl rfl rfl rfl rfl rfl rfl rfl ?_
      refine G_iload_n rfl rfl ?_
      exact H_ret rfl rfl (rfl) (rfl)
    · exact absurd (Int32.le_refl _) h
  | l + 1, k, S, hn, hf, hT, hπ, h06, hk, l4, l5 => by
    have hx : XQ 10 11 60 := Or.inl ⟨rfl, rfl, rfl⟩
    have c1 := ev_startOf S R hn hc (k := k) (by omega)
    rw [hf] at c1
    obtain ⟨S1, r, c2, fr, tp⟩ := ev_takePart S R hT hn hc (hg k) hπ
    rw [hf] at tp
    obtain ⟨hT1, hπ1⟩ := TP_good tp hT hπ
    by_cases h10 : 10 < r
    · obtain ⟨S', tk, st, row', g, htk, t1, t2, t3, t4, t5⟩ := tk_loop R hc hg hP l (k + 1) S1 (by rw [fr 10 (by decide) (by decide) (by decide)]; exact hn) (by rw [fr 11 (by decide) (by decide) (by decide)]; exact hf) hT1 hπ1 (by rw [fr 0 (by decide) (by decide) (by decide)]; exact h06) (by omega) (some (.int (nI (sOf f k n).2))) (some (.int r))
      rw [fr 10 (by decide) (by decide) (by decide)] at t3
      rw [fr 0 (by decide) (by decide) (by decide), fr 12 (by decide) (by decide) (by decide)] at t4 t5
      refine ⟨S', tk, st, row', ?_, ⟨r, S1 2, tp, fun _ => htk, fun q => absurd h10 q⟩, t1, fun i h1 h2 h3 h4 h5 => (t2 i h1 h2 h3 h4 h5).trans (fr i h3 (fun e => h1 (by rw [e]; decide)) (fun e => h1 (by rw [e]; decide))), t3, t4, t5⟩
      refine G_iload_n rfl rfl ?_
      refine G_iload_n rfl rfl ?_
      refine G_icmp_ge rfl (fun h => ?_) (fun h => ?_)
      · exact absurd h (ge_no (show k < P by omega) (by omega))
      refine G_aload_n rfl rfl ?_
      refine H_getI rfl rfl rfl rfl ?_
      refine G_if_ne rfl (fun h2 => ?_) (fun h2 => ?_)
      · exact absurd h06 h2
      refine G_aload_n rfl rfl ?_
      refine H_getR rfl rfl rfl rfl rfl rfl ?_
      refine G_iload_n rfl rfl ?_
      refine H_callS (c1) rfl rfl rfl rfl rfl ?_
      refine H_ist_6_4 rfl rfl ?_
      refine G_aload_n rfl rfl ?_
      refine G_iload rfl rfl ?_
      refine H_callV (c2) rfl rfl rfl rfl rfl rfl rfl rfl ?_
      refine H_ist_6_5 rfl rfl ?_
      refine G_iload rfl rfl ?_
      refine G_bipush rfl ?_
      refine G_icmp_le rfl (fun h3 => ?_) (fun h3 => ?_)
      · exact absurd h10 (Int32.not_lt.mpr h3)
      refine H_inc_6_2 rfl rfl ?_
      refine G_goto rfl ?_
      refine H_inc_6_3 rfl rfl ?_
      refine G_goto rfl ?_
      rw [nI_succ] at g
      exact g
    · have c3 := ev_stopAt S1 R r (nI k) (nI (sOf f k n).2)
      have e0 : S1 0 = S 0 := fr 0 (by decide) (by decide) (by decide)
      have e12 : S1 12 = S 12 := fr 12 (by decide) (by decide) (by decide)
      have e10 : S1 10 = S 10 := fr 10 (by decide) (by decide) (by decide)
      rw [e0, e12] at c3
      have c4 := ev_xempty hx (u2 (u2 S1 0 (upd (S 0) 6 1)) 12 (upd (upd (upd (S 12) 0 r) 1 (nI k)) 2 (nI (sOf f k n).2))) R
      rw [u2_ne (show 10 ≠ 12 by decide), u2_ne (show 10 ≠ 0 by decide), e10] at c4
      refine ⟨u2 (u2 (u2 S1 0 (upd (S 0) 6 1)) 12 (upd (upd (upd (S 12) 0 r) 1 (nI k)) 2 (nI (sOf f k n).2))) 10 (upd (S 10) 1 0), k, some r, S1 2, ?_, ⟨r, S1 2, tp, fun q => absurd q h10, fun _ => ⟨rfl, rfl, rfl⟩⟩, ?_, fun i h1 h2 h3 h4 h5 => ?_, u2_same, fun q => (by cases q), fun r' q => ?_⟩
      · skip
        refine G_iload_n rfl rfl ?_
        refine G_iload_n rfl rfl ?_
        refine G_icmp_ge rfl (fun h => ?_) (fun h => ?_)
        · exact absurd h (ge_no (show k < P by omega) (by omega))
        refine G_aload_n rfl rfl ?_
        refine H_getI rfl rfl rfl rfl ?_
        refine G_if_ne rfl (fun h2 => ?_) (fun h2 => ?_)
        · exact absurd h06 h2
        refine G_aload_n rfl rfl ?_
        refine H_getR rfl rfl rfl rfl rfl rfl ?_
        refine G_iload_n rfl rfl ?_
        refine H_callS (c1) rfl rfl rfl rfl rfl ?_
        refine H_ist_6_4 rfl rfl ?_
        refine G_aload_n rfl rfl ?_
        refine G_iload rfl rfl ?_
        refine H_callV (c2) rfl rfl rfl rfl rfl rfl rfl rfl ?_
        refine H_ist_6_5 rfl rfl ?_
        refine G_iload rfl rfl ?_
        refine G_bipush rfl ?_
        refine G_icmp_le rfl (fun h3 => ?_) (fun h3 => ?_)
        · skip
          refine G_aload_n rfl rfl ?_
          refine G_iload rfl rfl ?_
          refine G_iload_n rfl rfl ?_
          refine G_iload rfl rfl ?_
          refine H_callU (c3) rfl rfl rfl rfl rfl rfl rfl rfl ?_
          refine H_inc_6_3 rfl rfl ?_
          refine G_goto rfl ?_
          rw [← nI_succ]
          refine G_iload_n rfl rfl ?_
          refine G_iload_n rfl rfl ?_
          refine G_icmp_ge rfl (fun h4 => ?_) (fun h4 => ?_)
          · skip
            refine G_aload_n rfl rfl ?_
            refine H_getR rfl rfl rfl rfl rfl rfl ?_
            refine H_callU (c4) rfl rfl rfl rfl rfl rfl rfl rfl ?_
            refine G_iload_n rfl rfl ?_
            exact H_ret rfl rfl (rfl) (rfl)
          refine G_aload_n rfl rfl ?_
          refine H_getI rfl rfl rfl rfl ?_
          refine G_if_ne rfl (fun h5 => ?_) (fun h5 => ?_)
          · skip
            refine G_aload_n rfl rfl ?_
            refine H_getR rfl rfl rfl rfl rfl rfl ?_
            refine H_callU (c4) rfl rfl rfl rfl rfl rfl rfl rfl ?_
            refine G_iload_n rfl rfl ?_
            exact H_ret rfl rfl (rfl) (rfl)
          · exact absurd (by rw [u2_ne (show 0 ≠ 12 by decide), u2_same, upd_same]; decide) h5
        · exact absurd (Int32.not_le.mp h3) h10
      · rw [u2_ne (by decide), u2_ne (by decide), u2_ne (by decide)]
      · rw [u2_ne h4, u2_ne h5, u2_ne h2]
        exact fr i h3 (fun e => h1 (by rw [e]; decide)) (fun e => h1 (by rw [e]; decide))
      · cases q
        exact ⟨by rw [u2_ne (by decide), u2_ne (by decide), u2_same], by rw [u2_ne (by decide), u2_same]⟩
section XM3
variable (S : Nat → Nat → Int32) (R : Nat → Nat)
set_option maxRecDepth 100000 in
theorem xm_take0 {m : Nat} (hm : S 10 1 = nI m) (hc : m ≤ 60) (h : gF (S 11) m m 0 0 ≠ -4) : EvM kX_take [.ref 0] (mk S R) (some (.int (-2))) (mk S R) := by
  refine EvM_mk [some (.ref 0), none, none, none, none, none] rfl rfl rfl rfl rfl (trivial) ?_
  refine G_aload_n rfl rfl ?_
  refine H_getR rfl rfl rfl rfl rfl rfl ?_
  refine H_callS (ev_firstFault S R hm hc) rfl rfl rfl rfl rfl ?_
  refine G_bipush rfl ?_
  refine G_icmp_eq rfl (fun h1 => ?_) (fun h1 => ?_)
  · exact absurd h1 h
  refine G_bipush rfl ?_
  exact H_ret rfl rfl (rfl) (rfl)
set_option maxRecDepth 100000 in
theorem xm_take (hR : RO R) {n m T : Nat} (hn : S 3 1 = nI n) (hn4 : n ≤ 4) (hm : S 10 1 = nI m) (hc : m ≤ 60) (h : gF (S 11) m m 0 0 = -4) (hT : NT (S 2) T) (hπ : ∃ π, Pot (S 2) π) : ∃ S' tk st row', EvM kX_take [.ref 0] (mk S R) (some (.int (nI tk))) (mk S' (recR R n)) ∧ TK (S 11) m T (1 + cnt (fun i => decide (S 11 i = 44)) m) 0 (S 2) tk st row' ∧ TF (S 11) m (u2 (recS S R n) 0 (upd (S 0) 6 0)) S' tk st row' := by
  have hx : XQ 10 11 60 := Or.inl ⟨rfl, rfl, rfl⟩
  have e : ∀ i, i < 3 ∨ i = 4 ∨ 8 < i → recS S R n i = S i := fun i hi => rec_ne S R hR hn4 hi
  have c2 := ev_record S R hR hn hn4
  generalize recS S R n = S1 at *
  generalize recR R n = R1 at *
  have c3 := ev_parts (u2 S1 0 (upd (S 0) 6 0)) R1 (n := m) (by rw [u2_ne (by decide), e 10 (by decide)]; exact hm) hc
  rw [u2_ne (show 11 ≠ 0 by decide), e 11 (by decide)] at c3
  obtain ⟨S', tk, st, row', g, h1, h2⟩ := tk_loop R1 (T := T) (P := 1 + cnt (fun i => decide (S 11 i = 44)) m) hc (start_3 hc h) (by have := cnt_le (fun i => decide (S 11 i = 44)) m; omega) (1 + cnt (fun i => decide (S 11 i = 44)) m) 0 (u2 S1 0 (upd (S 0) 6 0)) (by rw [u2_ne (by decide), e 10 (by decide)]; exact hm) (by rw [u2_ne (by decide), e 11 (by decide)]) (by rw [u2_ne (by decide), e 2 (by decide)]; exact hT) (by rw [u2_ne (by decide), e 2 (by decide)]; exact hπ) (by rw [u2_same, upd_same]) (Nat.zero_add _) none none
  rw [u2_ne (show 2 ≠ 0 by decide), e 2 (by decide)] at h1
  refine ⟨S', tk, st, row', ?_, h1, h2⟩
  refine EvM_mk [some (.ref 0), none, none, none, none, none] rfl rfl rfl rfl rfl (trivial) ?_
  refine G_aload_n rfl rfl ?_
  refine H_getR rfl rfl rfl rfl rfl rfl ?_
  refine H_callS (ev_firstFault S R hm hc) rfl rfl rfl rfl rfl ?_
  refine G_bipush rfl ?_
  refine G_icmp_eq rfl (fun h1 => ?_) (fun h1 => ?_)
  · skip
    refine G_aload_n rfl rfl ?_
    refine H_getR rfl rfl rfl rfl rfl rfl ?_
    refine G_aload_n rfl rfl ?_
    refine H_getR rfl rfl rfl rfl rfl rfl ?_
    refine H_callU (c2) rfl rfl rfl rfl rfl rfl rfl rfl ?_
    refine G_aload_n rfl rfl ?_
    refine G_iconst rfl ?_
    refine H_putI rfl rfl rfl rfl ?_
    rw [e 0 (by decide)]
    refine G_aload_n rfl rfl ?_
    refine H_getR rfl rfl rfl rfl rfl rfl ?_
    refine H_callS (c3) rfl rfl rfl rfl rfl ?_
    refine H_ist_6_1 rfl rfl ?_
    refine G_iconst rfl ?_
    refine H_ist_6_2 rfl rfl ?_
    refine G_iconst rfl ?_
    refine H_ist_6_3 rfl rfl ?_
    exact g
  · exact absurd h h1
end XM3
