/-! readings that alone hold others together -/
theorem cnt_upb {f g : Nat → Bool} {x : Nat} (hf : f x = false) (hg : g x = true) : ∀ {n : Nat}, (∀ y, y < n → y ≠ x → g y = f y) → x < n → cnt g n = cnt f n + 1
  | 0, _, h => absurd h (Nat.not_lt_zero _)
  | n + 1, he, h => by
    by_cases e : x = n
    · subst e
      rw [cnt_t hg, cnt_f hf, cnt_congr (f := g) (g := f) (fun i hi => he i (by omega) (by omega))]
    · have ih := cnt_upb hf hg (n := n) (fun y hy => he y (by omega)) (by omega)
      have en := he n (by omega) (Ne.symm e)
      cases hn : f n with
      | true => rw [cnt_t hn, cnt_t (en.trans hn), ih]
      | false => rw [cnt_f hn, cnt_f (en.trans hn), ih]
noncomputable def br (row : Nat → Int32) (j : Nat) : Bool := hs row j && !(@decide (Cn (upd row j NONE) (j % 12) (12 + j / 12)) (Classical.propDecidable _))
noncomputable def brs (row : Nat → Int32) : Nat := cnt (br row) 96
theorem hs_upd {row : Nat → Int32} {j k : Nat} : hs (upd row j NONE) k = true ↔ k ≠ j ∧ hs row k = true := by
  unfold hs upd
  by_cases h : k = j
  · simp [h]
  · simp [h]
theorem br_iff {row : Nat → Int32} {j : Nat} : br row j = true ↔ hs row j = true ∧ ¬ Cn (upd row j NONE) (j % 12) (12 + j / 12) := by
  unfold br
  rw [Bool.and_eq_true, Bool.not_eq_true', decide_eq_false_iff_not]
def pend (row : Nat → Int32) (j : Nat) : Prop := (∀ k, k < 96 → k ≠ j → k / 12 = j / 12 → hs row k = false) ∨ (∀ k, k < 96 → k ≠ j → k % 12 = j % 12 → hs row k = false)
theorem bool_ne {b : Bool} (h : b = false) : ¬ b = true := by rw [h]; decide
theorem brs_pend {row : Nat → Int32} {j : Nat} (hj : j < 96) (hh : hs row j = true) (hp : pend row j) : brs row = brs (upd row j NONE) + 1 := by
  unfold brs
  refine cnt_upb (x := j) ?_ (br_iff.mpr ⟨hh, fun hc => ?_⟩) (fun i hi96 hi => ?_) hj
  · cases e : br (upd row j NONE) j with
    | false => rfl
    | true => exact absurd rfl (hs_upd.mp (br_iff.mp e).1).1
  · rcases hp with hp | hp
    · have := hc (fun z => z ≠ 12 + j / 12) (fun k hk hkk => by
        have h1 := hs_upd.mp hkk
        have h2 : k / 12 ≠ j / 12 := fun e => bool_ne (hp k hk h1.1 e) h1.2
        exact ⟨fun _ => by omega, fun _ => by omega⟩) (by omega)
      exact this rfl
    · have := hc.sy (fun z => z ≠ j % 12) (fun k hk hkk => by
        have h1 := hs_upd.mp hkk
        have h2 : k % 12 ≠ j % 12 := fun e => bool_ne (hp k hk h1.1 e) h1.2
        exact ⟨fun _ => h2, fun _ => by omega⟩) (by omega)
      exact this rfl
  · have key : ∀ i, i < 96 → i ≠ j → hs row i = true → Cn (upd row i NONE) (i % 12) (12 + i / 12) → Cn (upd (upd row j NONE) i NONE) (i % 12) (12 + i / 12) := by
      intro i hi96 hi hhi hc A hA hAx
      rcases hp with hp | hp
      · have hne : i / 12 ≠ j / 12 := fun e => bool_ne (hp i hi96 hi e) hhi
        have := hc (fun z => if z = 12 + j / 12 then A (j % 12) else A z) (fun k hk hkk => by
          have h1 := hs_upd.mp hkk
          dsimp only
          by_cases e : k = j
          · subst e
            rw [if_pos rfl, if_neg (by omega)]
          · have h2 : k / 12 ≠ j / 12 := fun q => bool_ne (hp k hk e q) h1.2
            rw [if_neg (by omega), if_neg (by omega)]
            exact hA k hk (hs_upd.mpr ⟨h1.1, hs_upd.mpr ⟨e, h1.2⟩⟩)) (by show if _ then _ else _; rw [if_neg (by omega)]; exact hAx)
        have this : if 12 + i / 12 = 12 + j / 12 then A (j % 12) else A (12 + i / 12) := this
        rwa [if_neg (by omega)] at this
      · have hne : i % 12 ≠ j % 12 := fun e => bool_ne (hp i hi96 hi e) hhi
        have := hc (fun z => if z = j % 12 then A (12 + j / 12) else A z) (fun k hk hkk => by
          have h1 := hs_upd.mp hkk
          dsimp only
          by_cases e : k = j
          · subst e
            rw [if_pos rfl, if_neg (by omega)]
          · have h2 : k % 12 ≠ j % 12 := fun q => bool_ne (hp k hk e q) h1.2
            rw [if_neg (by omega), if_neg h2]
            exact hA k hk (hs_upd.mpr ⟨h1.1, hs_upd.mpr ⟨e, h1.2⟩⟩)) (by show if _ then _ else _; rw [if_neg hne]; exact hAx)
        have this : if 12 + i / 12 = j % 12 then A (12 + j / 12) else A (12 + i / 12) := this
        rwa [if_neg (by omega)] at this
    have e1 : upd (upd row j NONE) i NONE = upd (upd row i NONE) j NONE := funext fun x => by
      unfold upd
      by_cases h1 : x = i <;> by_cases h2 : x = j <;> simp [h1, h2]
    cases h1 : br row i with
    | true =>
      have h2 := br_iff.mp h1
      exact (br_iff.mpr ⟨hs_upd.mpr ⟨hi, h2.1⟩, fun hc => h2.2 (hc.mono (fun k hk hkk => by
        have h3 := hs_upd.mp hkk
        exact hs_upd.mpr ⟨h3.1, (hs_upd.mp h3.2).2⟩))⟩).symm
    | false =>
      cases h2 : br (upd row j NONE) i with
      | false => rfl
      | true =>
        have h3 := br_iff.mp h2
        have h4 := hs_upd.mp h3.1
        exact absurd (br_iff.mpr ⟨h4.2, fun hc => h3.2 (key i hi96 hi h4.2 hc)⟩) (bool_ne h1)
theorem cnt_one {f : Nat → Bool} {n i k : Nat} (h : cnt f n = 1) (hi : i < n) (hfi : f i = true) (hk : k < n) (hki : k ≠ i) : f k = false := by
  have h1 := cnt_upb (f := fun y => if y = i then false else f y) (g := f) (x := i) (by simp) hfi (n := n) (fun y _ hy => by simp [hy]) hi
  have h2 := cnt_0.mp (show cnt (fun y => if y = i then false else f y) n = 0 by omega) k hk
  simpa [hki] using h2
theorem tOf_hs {row : Nat → Int32} {t : Nat} (ht : t < 8) : tOf row (nI t) 12 = cnt (fun i => hs row (t * 12 + i)) 12 := cnt_congr (fun i hi => tHas_nI ht hi)
theorem tAtP_hs {row : Nat → Int32} {p T : Nat} (hp : p < 12) (hT : T ≤ 8) : tAtP row (nI p) T = cnt (fun t => hs row (t * 12 + p)) T := cnt_congr (fun i hi => tHas_nI (by omega) hp)
theorem pend_of {row : Nat → Int32} {t p T : Nat} (hT : NT row T) (ht : t < T) (hp : p < 12) (hh : hs row (t * 12 + p) = true) (h : tOf row (nI t) 12 = 1 ∨ tAtP row (nI p) T = 1) : pend row (t * 12 + p) := by
  have hT8 := hT.2.1
  rcases h with h | h
  · left
    intro k hk hne hd
    rw [tOf_hs (by omega)] at h
    have := cnt_one h hp hh (k := k % 12) (by omega) (by omega)
    have e : t * 12 + k % 12 = k := by omega
    rwa [e] at this
  · right
    intro k hk hne hd
    rw [tAtP_hs hp hT8] at h
    by_cases hkT : k / 12 < T
    · have := cnt_one h ht hh (k := k / 12) hkT (by omega)
      have e : k / 12 * 12 + p = k := by omega
      rwa [e] at this
    · have := hT.2.2 k (by omega) hk
      simp [hs, this]
theorem NT_none {row : Nat → Int32} {T j : Nat} (h : NT row T) (hj : j < 96) : NT (upd row j NONE) T := by
  refine ⟨by rw [upd_ne (by omega)]; exact h.1, h.2.1, fun k h1 h2 => ?_⟩
  unfold upd
  split
  · rfl
  · exact h.2.2 k h1 h2
theorem brs_le (row : Nat → Int32) : brs row ≤ 96 := cnt_le _ _
/-- what the taking away of ends keeps -/
def TE (S : Nat → Nat → Int32) (T : Nat) (S1 : Nat → Nat → Int32) (g : Nat) : Prop := (∀ i, i ≠ 21 → S1 i = S i) ∧ NT (S1 21) T ∧ brs (S 21) = g + brs (S1 21)
set_option maxRecDepth 100000 in
theorem ev_takeEndsOnce (R : Nat → Nat) {T : Nat} (S : Nat → Nat → Int32) (hT : NT (S 21) T) : ∃ S' g, EvM kX_takeEndsOnce [.ref 0] (mk S R) (some (.int (nI g))) (mk S' R) ∧ TE S T S' g := by
  have hq : TQ 20 21 := Or.inr ⟨rfl, rfl⟩
  have hT8 := hT.2.1
  have outer : ∀ d t S1 g l3, t + d = T → TE S T S1 g → ∃ S' g', Gm kX_takeEndsOnce 4 [some (.ref 0), some (.int (nI g)), some (.int (nI t)), l3] [] (S1, PF R, 24) (some (.int (nI g'))) (S', PF R, 24) ∧ TE S T S' g' := by
    intro d
    induction d with
    | zero =>
      intro t S1 g l3 ht h1
      have e1 := ev_tapes hq S1 R
      rw [h1.2.1.1] at e1
      refine ⟨S1, g, ?_, h1⟩
      refine G_iload_n rfl rfl ?_
      refine G_aload_n rfl rfl ?_
      refine H_getR rfl rfl rfl rfl rfl rfl ?_
      refine H_callV (e1) rfl rfl rfl rfl rfl rfl rfl rfl ?_
      refine G_icmp_ge rfl (fun h => ?_) (fun h => ?_)
      · skip
        refine G_iload_n rfl rfl ?_
        exact H_ret rfl rfl (rfl) (rfl)
      · exact absurd (nI_le (by omega) (by omega)) h
    | succ d ih =>
      intro t S1 g l3 ht h1
      have t8 : t < 8 := by omega
      have inner : ∀ dp p S1 g, p + dp = 12 → TE S T S1 g → ∃ S' g', Gm kX_takeEndsOnce 17 [some (.ref 0), some (.int (nI g)), some (.int (nI t)), some (.int (nI p))] [] (S1, PF R, 24) (some (.int (nI g'))) (S', PF R, 24) ∧ TE S T S' g' := by
        intro dp
        induction dp with
        | zero =>
          intro p S1 g hp h1
          obtain ⟨S', g', gg, r⟩ := ih (t + 1) S1 g (some (.int (nI p))) (by omega) h1
          refine ⟨S', g', ?_, r⟩
          rw [nI_succ] at gg
          refine G_iload_n rfl rfl ?_
          refine G_bipush rfl ?_
          refine G_icmp_ge rfl (fun h => ?_) (fun h => ?_)
          · skip
            refine H_inc_4_2 rfl rfl ?_
            refine G_goto rfl ?_
            exact gg
          · exact absurd (nI_le (a := 12) (by omega) (by omega)) h
        | succ dp ihp =>
          intro p S1 g hp h1
          have p12 : p < 12 := by omega
          have hh := ev_has hq S1 R (nI t) (nI p)
          rw [tHas_nI t8 p12] at hh
          have ho := ev_readingsOf hq S1 R (nI t)
          have ha := ev_readingsAt hq S1 R (nI p) h1.2.1.1 hT8
          have lo : tOf (S1 21) (nI t) 12 < 2 ^ 31 := Nat.lt_of_le_of_lt (cnt_le _ _) (by decide)
          have la : tAtP (S1 21) (nI p) T < 2 ^ 31 := Nat.lt_of_le_of_lt (cnt_le _ _) (by omega)
          have keep : ∃ S' g', Gm kX_takeEndsOnce 73 [some (.ref 0), some (.int (nI g)), some (.int (nI t)), some (.int (nI p))] [] (S1, PF R, 24) (some (.int (nI g'))) (S', PF R, 24) ∧ TE S T S' g' := by
            obtain ⟨S', g', gg, r⟩ := ihp (p + 1) S1 g (by omega) h1
            refine ⟨S', g', ?_, r⟩
            rw [nI_succ] at gg
            refine H_inc_4_3 rfl rfl ?_
            refine G_goto rfl ?_
            exact gg
          cases hb : hs (S1 21) (t * 12 + p) with
          | false =>
            obtain ⟨S', g', gg, r⟩ := keep
            refine ⟨S', g', ?_, r⟩
            rw [hb] at hh
            refine G_iload_n rfl rfl ?_
            refine G_bipush rfl ?_
            refine G_icmp_ge rfl (fun h => ?_) (fun h => ?_)
            · exact absurd h (ge_no p12 (by decide))
            refine G_aload_n rfl rfl ?_
            refine H_getR rfl rfl rfl rfl rfl rfl ?_
            refine G_iload_n rfl rfl ?_
            refine G_iload_n rfl rfl ?_
            refine H_callV (hh) rfl rfl rfl rfl rfl rfl rfl rfl ?_
            refine G_if_eq rfl (fun h2 => ?_) (fun h2 => ?_)
            · exact gg
            · exact absurd rfl h2
          | true =>
            rw [hb] at hh
            by_cases hone : tOf (S1 21) (nI t) 12 = 1 ∨ tAtP (S1 21) (nI p) T = 1
            · have hpd := pend_of h1.2.1 (by omega) p12 hb hone
              have hbr := brs_pend (by omega) hb hpd
              have evp := ev_put hq S1 R (nI t) (nI p) 1000000
              rw [tPut_nI t8 p12] at evp
              obtain ⟨S', g', gg, r⟩ := ihp (p + 1) (u2 S1 21 (upd (S1 21) (t * 12 + p) NONE)) (g + 1) (by omega) ⟨fun i hi => by rw [u2_ne hi]; exact h1.1 i hi, by rw [u2_same]; exact NT_none h1.2.1 (by omega), by rw [u2_same, h1.2.2, hbr]; omega⟩
              refine ⟨S', g', ?_, r⟩
              rw [nI_succ, nI_succ] at gg
              have tail : Gm kX_takeEndsOnce 59 [some (.ref 0), some (.int (nI g)), some (.int (nI t)), some (.int (nI p))] [] (S1, PF R, 24) (some (.int (nI g'))) (S', PF R, 24) := by
                refine G_aload_n rfl rfl ?_
                refine H_getR rfl rfl rfl rfl rfl rfl ?_
                refine G_iload_n rfl rfl ?_
                refine G_iload_n rfl rfl ?_
                refine G_ldc rfl ?_
                refine H_callU (evp) rfl rfl rfl rfl rfl rfl rfl rfl ?_
                refine H_inc_4_1 rfl rfl ?_
                refine H_inc_4_3 rfl rfl ?_
                refine G_goto rfl ?_
                exact gg
              refine G_iload_n rfl rfl ?_
              refine G_bipush rfl ?_
              refine G_icmp_ge rfl (fun h => ?_) (fun h => ?_)
              · exact absurd h (ge_no p12 (by decide))
              refine G_aload_n rfl rfl ?_
              refine H_getR rfl rfl rfl rfl rfl rfl ?_
              refine G_iload_n rfl rfl ?_
              refine G_iload_n rfl rfl ?_
              refine H_callV (hh) rfl rfl rfl rfl rfl rfl rfl rfl ?_
              refine G_if_eq rfl (fun h2 => ?_) (fun h2 => ?_)
              · exact absurd h2 (by decide)
              refine G_aload_n rfl rfl ?_
              refine H_getR rfl rfl rfl rfl rfl rfl ?_
              refine G_iload_n rfl rfl ?_
              refine H_callV (ho) rfl rfl rfl rfl rfl rfl rfl rfl ?_
              refine G_iconst rfl ?_
              refine G_icmp_eq rfl (fun h3 => ?_) (fun h3 => ?_)
              · exact tail
              refine G_aload_n rfl rfl ?_
              refine H_getR rfl rfl rfl rfl rfl rfl ?_
              refine G_iload_n rfl rfl ?_
              refine H_callV (ha) rfl rfl rfl rfl rfl rfl rfl rfl ?_
              refine G_iconst rfl ?_
              refine G_icmp_ne rfl (fun h4 => ?_) (fun h4 => ?_)
              · rcases hone with e | e
                · exact absurd (by rw [e]; rfl) h3
                · exact absurd (by rw [e]; rfl) h4
              · exact tail
            · obtain ⟨S', g', gg, r⟩ := keep
              refine ⟨S', g', ?_, r⟩
              refine G_iload_n rfl rfl ?_
              refine G_bipush rfl ?_
              refine G_icmp_ge rfl (fun h => ?_) (fun h => ?_)
              · exact absurd h (ge_no p12 (by decide))
              refine G_aload_n rfl rfl ?_
              refine H_getR rfl rfl rfl rfl rfl rfl ?_
              refine G_iload_n rfl rfl ?_
              refine G_iload_n rfl rfl ?_
              refine H_callV (hh) rfl rfl rfl rfl rfl rfl rfl rfl ?_
              refine G_if_eq rfl (fun h2 => ?_) (fun h2 => ?_)
              · exact absurd h2 (by decide)
              refine G_aload_n rfl rfl ?_
              refine H_getR rfl rfl rfl rfl rfl rfl ?_
              refine G_iload_n rfl rfl ?_
              refine H_callV (ho) rfl rfl rfl rfl rfl rfl rfl rfl ?_
              refine G_iconst rfl ?_
              refine G_icmp_eq rfl (fun h3 => ?_) (fun h3 => ?_)
              · exact absurd (Or.inl ((nI_eq lo (by decide)).mp h3)) hone
              refine G_aload_n rfl rfl ?_
              refine H_getR rfl rfl rfl rfl rfl rfl ?_
              refine G_iload_n rfl rfl ?_
              refine H_callV (ha) rfl rfl rfl rfl rfl rfl rfl rfl ?_
              refine G_iconst rfl ?_
              refine G_icmp_ne rfl (fun h4 => ?_) (fun h4 => ?_)
              · exact gg
              · exact absurd (Or.inr ((nI_eq la (by decide)).mp (Decidable.of_not_not h4))) hone
      have e1 := ev_tapes hq S1 R
      rw [h1.2.1.1] at e1
      obtain ⟨S', g', gg, r⟩ := inner 12 0 S1 g (by omega) h1
      refine ⟨S', g', ?_, r⟩
      refine G_iload_n rfl rfl ?_
      refine G_aload_n rfl rfl ?_
      refine H_getR rfl rfl rfl rfl rfl rfl ?_
      refine H_callV (e1) rfl rfl rfl rfl rfl rfl rfl rfl ?_
      refine G_icmp_ge rfl (fun h => ?_) (fun h => ?_)
      · exact absurd h (ge_no (by omega) (by omega))
      refine G_iconst rfl ?_
      refine H_ist_4_3 rfl rfl ?_
      exact gg
  obtain ⟨S', g', gg, r⟩ := outer T 0 S 0 none (by omega) ⟨fun _ _ => rfl, hT, by omega⟩
  refine ⟨S', g', ?_, r⟩
  refine EvM_mk [some (.ref 0), none, none, none] rfl rfl rfl rfl rfl (trivial) ?_
  refine G_iconst rfl ?_
  refine H_ist_4_1 rfl rfl ?_
  refine G_iconst rfl ?_
  refine H_ist_4_2 rfl rfl ?_
  exact gg
set_option maxRecDepth 100000 in
theorem ev_takeEndsAway (R : Nat → Nat) {T : Nat} (S : Nat → Nat → Int32) (hT : NT (S 21) T) : ∃ S' g, EvM kX_takeEndsAway [.ref 0] (mk S R) (some (.int (nI g))) (mk S' R) ∧ TE S T S' g := by
  have loop : ∀ d i S1 g l3, i + d = 40 → TE S T S1 g → ∃ S' g', Gm kX_takeEndsAway 4 [some (.ref 0), some (.int (nI g)), some (.int (nI i)), l3] [] (S1, PF R, 24) (some (.int (nI g'))) (S', PF R, 24) ∧ TE S T S' g' := by
    intro d
    induction d with
    | zero =>
      intro i S1 g l3 hi h1
      refine ⟨S1, g, ?_, h1⟩
      refine G_iload_n rfl rfl ?_
      refine G_bipush rfl ?_
      refine G_icmp_ge rfl (fun h => ?_) (fun h => ?_)
      · skip
        refine G_iload_n rfl rfl ?_
        exact H_ret rfl rfl (rfl) (rfl)
      · exact absurd (nI_le (a := 40) (by omega) (by omega)) h
    | succ d ih =>
      intro i S1 g l3 hi h1
      obtain ⟨S2, g2, ev, t1, t2, t3⟩ := ev_takeEndsOnce R S1 h1.2.1
      have hle := brs_le (S1 21)
      have h2 : TE S T S2 (g + g2) := ⟨fun i hi => (t1 i hi).trans (h1.1 i hi), t2, by rw [h1.2.2, t3]; omega⟩
      by_cases h0 : g2 = 0
      · subst h0
        refine ⟨S2, g, ?_, h2⟩
        refine G_iload_n rfl rfl ?_
        refine G_bipush rfl ?_
        refine G_icmp_ge rfl (fun h => ?_) (fun h => ?_)
        · exact absurd h (ge_no (n := 40) (by omega) (by decide))
        refine G_aload_n rfl rfl ?_
        refine H_callV (ev) rfl rfl rfl rfl rfl rfl rfl rfl ?_
        refine H_ist_4_3 rfl rfl ?_
        refine G_iload_n rfl rfl ?_
        refine G_if_ne rfl (fun h3 => ?_) (fun h3 => ?_)
        · exact absurd rfl h3
        refine G_iload_n rfl rfl ?_
        exact H_ret rfl rfl (rfl) (rfl)
      · obtain ⟨S', g', gg, r⟩ := ih (i + 1) S2 (g + g2) (some (.int (nI g2))) (by omega) h2
        refine ⟨S', g', ?_, r⟩
        refine G_iload_n rfl rfl ?_
        refine G_bipush rfl ?_
        refine G_icmp_ge rfl (fun h => ?_) (fun h => ?_)
        · exact absurd h (ge_no (n := 40) (by omega) (by decide))
        refine G_aload_n rfl rfl ?_
        refine H_callV (ev) rfl rfl rfl rfl rfl rfl rfl rfl ?_
        refine H_ist_4_3 rfl rfl ?_
        refine G_iload_n rfl rfl ?_
        refine G_if_ne rfl (fun h3 => ?_) (fun h3 => ?_)
        · skip
          refine G_iload_n rfl rfl ?_
          refine G_iload_n rfl rfl ?_
          refine G_iadd rfl ?_
          refine H_ist_4_1 rfl rfl ?_
          refine H_inc_4_2 rfl rfl ?_
          refine G_goto rfl ?_
          rw [nI_add, ← nI_succ]
          exact gg
        · exact absurd ((nI_0iff (by omega)).mp (Decidable.of_not_not h3)) h0
  obtain ⟨S', g', gg, r⟩ := loop 40 0 S 0 none (by omega) ⟨fun _ _ => rfl, hT, by omega⟩
  refine ⟨S', g', ?_, r⟩
  refine EvM_mk [some (.ref 0), none, none, none] rfl rfl rfl rfl rfl (trivial) ?_
  refine G_iconst rfl ?_
  refine H_ist_4_1 rfl rfl ?_
  refine G_iconst rfl ?_
  refine H_ist_4_2 rfl rfl ?_
  exact gg
set_option maxRecDepth 100000 in
theorem ev_holdingOfRest (R : Nat → Nat) {T : Nat} (S : Nat → Nat → Int32) (hT : NT (S 21) T) : ∃ S', EvM kX_holdingOfRest [.ref 0] (mk S R) (some (.int (nI (brs (S 21))))) (mk S' R) ∧ wFr S S' := by
  have hq : TQ 20 21 := Or.inr ⟨rfl, rfl⟩
  have hT8 := hT.2.1
  have hNe : (1000000 : Int32) = NONE := rfl
  have hend : brs (S 21) = cnt (br (S 21)) (T * 12) := by
    unfold brs
    have h : ∀ d, T * 12 + d ≤ 96 → cnt (br (S 21)) (T * 12 + d) = cnt (br (S 21)) (T * 12) := by
      intro d
      induction d with
      | zero => intro _; rfl
      | succ d ih =>
        intro hd
        rw [← Nat.add_assoc, cnt_f, ih (by omega)]
        have := hT.2.2 (T * 12 + d) (by omega) (by omega)
        simp [br, hs, this]
    have := h (96 - T * 12) (by omega)
    rwa [show T * 12 + (96 - T * 12) = 96 by omega] at this
  have outer : ∀ d t S1 l3 l4, t + d = T → wFr S S1 → ∃ S', Gm kX_holdingOfRest 4 [some (.ref 0), some (.int (nI (cnt (br (S 21)) (t * 12)))), some (.int (nI t)), l3, l4] [] (S1, PF R, 24) (some (.int (nI (brs (S 21))))) (S', PF R, 24) ∧ wFr S S' := by
    intro d
    induction d with
    | zero =>
      intro t S1 l3 l4 ht h1
      have e1 := ev_tapes hq S1 R
      rw [h1 21 (by decide) (by decide) (by decide) (by decide), hT.1] at e1
      refine ⟨S1, ?_, h1⟩
      refine G_iload_n rfl rfl ?_
      refine G_aload_n rfl rfl ?_
      refine H_getR rfl rfl rfl rfl rfl rfl ?_
      refine H_callV (e1) rfl rfl rfl rfl rfl rfl rfl rfl ?_
      refine G_icmp_ge rfl (fun h => ?_) (fun h => ?_)
      · skip
        refine G_iload_n rfl rfl ?_
        exact H_ret rfl rfl ((by rw [hend, show t = T by omega])) (rfl)
      · exact absurd (nI_le (by omega) (by omega)) h
    | succ d ih =>
      intro t S1 l3 l4 ht h1
      have t8 : t < 8 := by omega
      have inner : ∀ dp p S1 l4, p + dp = 12 → wFr S S1 → ∃ S', Gm kX_holdingOfRest 17 [some (.ref 0), some (.int (nI (cnt (br (S 21)) (t * 12 + p)))), some (.int (nI t)), some (.int (nI p)), l4] [] (S1, PF R, 24) (some (.int (nI (brs (S 21))))) (S', PF R, 24) ∧ wFr S S' := by
        intro dp
        induction dp with
        | zero =>
          intro p S1 l4 hp h1
          obtain ⟨S', gg, r⟩ := ih (t + 1) S1 (some (.int (nI p))) l4 (by omega) h1
          refine ⟨S', ?_, r⟩
          rw [nI_succ, show (t + 1) * 12 = t * 12 + p by omega] at gg
          refine G_iload_n rfl rfl ?_
          refine G_bipush rfl ?_
          refine G_icmp_ge rfl (fun h => ?_) (fun h => ?_)
          · skip
            refine H_inc_5_2 rfl rfl ?_
            refine G_goto rfl ?_
            exact gg
          · exact absurd (nI_le (a := 12) (by omega) (by omega)) h
        | succ dp ihp =>
          intro p S1 l4 hp h1
          have p12 : p < 12 := by omega
          have s21 := h1 21 (by decide) (by decide) (by decide) (by decide)
          have hat := ev_at hq S1 R (nI t) (nI p)
          rw [tAt_nI t8 p12, s21] at hat
          cases hb : hs (S 21) (t * 12 + p) with
          | false =>
            have hno : S 21 (t * 12 + p) = NONE := by simpa [hs] using hb
            obtain ⟨S', gg, r⟩ := ihp (p + 1) S1 (some (.int (S 21 (t * 12 + p)))) (by omega) h1
            refine ⟨S', ?_, r⟩
            rw [← Nat.add_assoc, cnt_f (show br (S 21) (t * 12 + p) = false by rw [br, hb]; rfl), nI_succ] at gg
            refine G_iload_n rfl rfl ?_
            refine G_bipush rfl ?_
            refine G_icmp_ge rfl (fun h => ?_) (fun h => ?_)
            · exact absurd h (ge_no p12 (by decide))
            refine G_aload_n rfl rfl ?_
            refine H_getR rfl rfl rfl rfl rfl rfl ?_
            refine G_iload_n rfl rfl ?_
            refine G_iload_n rfl rfl ?_
            refine H_callV (hat) rfl rfl rfl rfl rfl rfl rfl rfl ?_
            refine H_ist_5_4 rfl rfl ?_
            refine G_iload rfl rfl ?_
            refine G_ldc rfl ?_
            refine G_icmp_eq rfl (fun h2 => ?_) (fun h2 => ?_)
            · skip
              refine H_inc_5_3 rfl rfl ?_
              refine G_goto rfl ?_
              exact gg
            · exact absurd hno h2
          | true =>
            have hyes : ¬ S 21 (t * 12 + p) = NONE := by simpa [hs] using hb
            have e12 : (12 : Int32) + nI t = nI (12 + t) := nI_add 12 t
            have evp := ev_put hq S1 R (nI t) (nI p) 1000000
            rw [tPut_nI t8 p12, s21] at evp
            obtain ⟨S2, b, evm, fr2, hbc, -⟩ := ev_meets hq R (a := p) (c := 12 + t) (T := T) (by omega) (by omega) (u2 S1 21 (upd (S 21) (t * 12 + p) 1000000)) (by rw [u2_same]; exact NT_none hT (by omega))
            rw [u2_same] at hbc
            have s21' : S2 21 = upd (S 21) (t * 12 + p) 1000000 := by rw [fr2 21 (by decide) (by decide) (by decide) (by decide), u2_same]
            have evb := ev_put hq S2 R (nI t) (nI p) (S 21 (t * 12 + p))
            have eback : upd (upd (S 21) (t * 12 + p) 1000000) (t * 12 + p) (S 21 (t * 12 + p)) = S 21 := funext fun x => by
              unfold upd
              by_cases e : x = t * 12 + p
              · rw [if_pos e, e]
              · rw [if_neg e, if_neg e]
            rw [tPut_nI t8 p12, s21', eback] at evb
            have h3 : wFr S (u2 S2 21 (S 21)) := fun i q1 q2 q3 q4 => by
              by_cases e : i = 21
              · rw [e, u2_same]
              · rw [u2_ne e, fr2 i q1 q2 q3 q4, u2_ne e]
                exact h1 i q1 q2 q3 q4
            obtain ⟨S', gg, r⟩ := ihp (p + 1) (u2 S2 21 (S 21)) (some (.int (S 21 (t * 12 + p)))) (by omega) h3
            refine ⟨S', ?_, r⟩
            have hbr : br (S 21) (t * 12 + p) = !b := by
              have hiff : br (S 21) (t * 12 + p) = true ↔ ¬ b = true := by
                rw [br_iff, hbc, show (t * 12 + p) % 12 = p by omega, show 12 + (t * 12 + p) / 12 = 12 + t by omega]
                exact ⟨fun q => q.2, fun q => ⟨hb, q⟩⟩
              cases b <;> cases hx : br (S 21) (t * 12 + p) <;> simp_all
            have tail : ∀ N : Nat, N = cnt (br (S 21)) (t * 12 + p + 1) → Gm kX_holdingOfRest 74 [some (.ref 0), some (.int (nI N)), some (.int (nI t)), some (.int (nI p)), some (.int (S 21 (t * 12 + p)))] [] (S2, PF R, 24) (some (.int (nI (brs (S 21))))) (S', PF R, 24) := fun N hN => by
              rw [← Nat.add_assoc, ← hN, nI_succ] at gg
              refine G_aload_n rfl rfl ?_
              refine H_getR rfl rfl rfl rfl rfl rfl ?_
              refine G_iload_n rfl rfl ?_
              refine G_iload_n rfl rfl ?_
              refine G_iload rfl rfl ?_
              refine H_callU (evb) rfl rfl rfl rfl rfl rfl rfl rfl ?_
              refine H_inc_5_3 rfl rfl ?_
              refine G_goto rfl ?_
              exact gg
            rw [← e12] at evm
            refine G_iload_n rfl rfl ?_
            refine G_bipush rfl ?_
            refine G_icmp_ge rfl (fun h => ?_) (fun h => ?_)
            · exact absurd h (ge_no p12 (by decide))
            refine G_aload_n rfl rfl ?_
            refine H_getR rfl rfl rfl rfl rfl rfl ?_
            refine G_iload_n rfl rfl ?_
            refine G_iload_n rfl rfl ?_
            refine H_callV (hat) rfl rfl rfl rfl rfl rfl rfl rfl ?_
            refine H_ist_5_4 rfl rfl ?_
            refine G_iload rfl rfl ?_
            refine G_ldc rfl ?_
            refine G_icmp_eq rfl (fun h2 => ?_) (fun h2 => ?_)
            · exact absurd h2 hyes
            refine G_aload_n rfl rfl ?_
            refine H_getR rfl rfl rfl rfl rfl rfl ?_
            refine G_iload_n rfl rfl ?_
            refine G_iload_n rfl rfl ?_
            refine G_ldc rfl ?_
            refine H_callU (evp) rfl rfl rfl rfl rfl rfl rfl rfl ?_
            refine G_aload_n rfl rfl ?_
            refine H_getR rfl rfl rfl rfl rfl rfl ?_
            refine G_aload_n rfl rfl ?_
            refine H_getR rfl rfl rfl rfl rfl rfl ?_
            refine G_iload_n rfl rfl ?_
            refine G_bipush rfl ?_
            refine G_iload_n rfl rfl ?_
            refine G_iadd rfl ?_
            refine H_callV (evm) rfl rfl rfl rfl rfl rfl rfl rfl ?_
            refine G_if_ne rfl (fun h5 => ?_) (fun h5 => ?_)
            · exact tail _ (by rw [cnt_f (by rw [hbr, b2i_n0.mp h5]; rfl)])
            · have h5 := b2i_0.mp (Decidable.of_not_not h5)
              refine H_inc_5_1 rfl rfl ?_
              rw [← nI_succ]
              exact tail _ (by rw [cnt_t (by rw [hbr, h5]; rfl)])
      have e1 := ev_tapes hq S1 R
      rw [h1 21 (by decide) (by decide) (by decide) (by decide), hT.1] at e1
      obtain ⟨S', gg, r⟩ := inner 12 0 S1 l4 (by omega) h1
      refine ⟨S', ?_, r⟩
      refine G_iload_n rfl rfl ?_
      refine G_aload_n rfl rfl ?_
      refine H_getR rfl rfl rfl rfl rfl rfl ?_
      refine H_callV (e1) rfl rfl rfl rfl rfl rfl rfl rfl ?_
      refine G_icmp_ge rfl (fun h => ?_) (fun h => ?_)
      · exact absurd h (ge_no (by omega) (by omega))
      refine G_iconst rfl ?_
      refine H_ist_5_3 rfl rfl ?_
      exact gg
  obtain ⟨S', gg, r⟩ := outer T 0 S none none (by omega) (fun _ _ _ _ _ => rfl)
  refine ⟨S', ?_, r⟩
  refine EvM_mk [some (.ref 0), none, none, none, none] rfl rfl rfl rfl rfl (trivial) ?_
  refine G_iconst rfl ?_
  refine H_ist_5_1 rfl rfl ?_
  refine G_iconst rfl ?_
  refine H_ist_5_2 rfl rfl ?_
  exact gg
