/-! the document's own reckoning: texts, part 5: whole texts, the fault -/
theorem gNP_n {x : Int32} (h : x ≠ 44) : gNP x = none := by unfold gNP; rw [decide_eq_false h]; rfl
section MT5
variable (S : Nat → Nat → Int32) (R : Nat → Nat)
set_option maxRecDepth 100000 in
theorem it_loop {n : Nat} (hn : S 24 6 = nI n) (hc : n ≤ 60) : ∀ (m p : Nat) (ok : Bool) (Z : Nat → Nat → Int32), n - p ≤ m → p ≤ n → PFr S Z → Z 24 9 = nI p → Z 24 10 = b2i ok → (ok = false → gF (S 28) n n 0 0 = nI p) → (ok = true → ∃ s, 5 ≤ s ∧ s ≤ 7 ∧ gF (S 28) n n 0 0 = gF (S 28) n (n - p) p s ∧ (p < n → gDig (S 28 p) = true → s = 7)) → ∃ S' p' ok', Gm kM_isText 14 [some (.ref 24)] [] (Z, PF R, 32) (some (.int (b2i ok'))) (S', PF R, 32) ∧ PFr S S' ∧ S' 24 9 = nI p' ∧ S' 24 10 = b2i ok' ∧ p' ≤ n ∧ gF (S 28) n n 0 0 = bif ok' then -4 else nI p' := by
  have off : ∀ (p : Nat) (Z : Nat → Nat → Int32), p ≤ n → PFr S Z → Z 24 9 = nI p → Z 24 10 = b2i false → gF (S 28) n n 0 0 = nI p → ∃ S' p' ok', Gm kM_isText 14 [some (.ref 24)] [] (Z, PF R, 32) (some (.int (b2i ok'))) (S', PF R, 32) ∧ PFr S S' ∧ S' 24 9 = nI p' ∧ S' 24 10 = b2i ok' ∧ p' ≤ n ∧ gF (S 28) n n 0 0 = bif ok' then -4 else nI p' := by
    intro p Z hp hF h9 h10 hg
    refine ⟨Z, p, false, ?_, hF, h9, h10, hp, hg⟩
    refine G_aload_n rfl rfl ?_
    refine H_getI rfl rfl rfl rfl ?_
    refine G_if_eq rfl (fun h => ?_) (fun h => ?_)
    · skip
      refine G_aload_n rfl rfl ?_
      refine H_getI rfl rfl rfl rfl ?_
      exact H_ret rfl rfl (h10) (rfl)
    · exact absurd h10 h
  intro m
  induction m with
  | zero =>
    intro p ok Z hm hp hF h9 h10 h0 h1
    cases ok with
    | false => exact off p Z hp hF h9 h10 (h0 rfl)
    | true =>
      obtain ⟨s, y1, y2, y3, y4⟩ := h1 rfl
      have e : p = n := by omega
      subst e
      refine ⟨Z, p, true, ?_, hF, h9, h10, hp, y3.trans (gF_t y1)⟩
      refine G_aload_n rfl rfl ?_
      refine H_getI rfl rfl rfl rfl ?_
      refine G_if_eq rfl (fun h => ?_) (fun h => ?_)
      · rw [h10] at h; exact absurd h (by decide)
      have h6 : Z 24 6 = nI p := (hF.2 6 (by decide)).trans hn
      refine G_aload_n rfl rfl ?_
      refine H_getI rfl rfl rfl rfl ?_
      refine G_aload_n rfl rfl ?_
      refine H_getI rfl rfl rfl rfl ?_
      refine G_icmp_ge rfl (fun h2 => ?_) (fun h2 => ?_)
      · skip
        refine G_aload_n rfl rfl ?_
        refine H_getI rfl rfl rfl rfl ?_
        exact H_ret rfl rfl (h10) (rfl)
      · rw [h9, h6] at h2; exact absurd (Int32.le_refl _) h2
  | succ m ih =>
    intro p ok Z hm hp hF h9 h10 h0 h1
    cases ok with
    | false => exact off p Z hp hF h9 h10 (h0 rfl)
    | true =>
      obtain ⟨s, y1, y2, y3, y4⟩ := h1 rfl
      have h6 : Z 24 6 = nI n := (hF.2 6 (by decide)).trans hn
      have f28 : Z 28 = S 28 := hF.1 28 (by decide)
      by_cases e : p = n
      · subst e
        refine ⟨Z, p, true, ?_, hF, h9, h10, hp, y3.trans (gF_t y1)⟩
        refine G_aload_n rfl rfl ?_
        refine H_getI rfl rfl rfl rfl ?_
        refine G_if_eq rfl (fun h => ?_) (fun h => ?_)
        · rw [h10] at h; exact absurd h (by decide)
        refine G_aload_n rfl rfl ?_
        refine H_getI rfl rfl rfl rfl ?_
        refine G_aload_n rfl rfl ?_
        refine H_getI rfl rfl rfl rfl ?_
        refine G_icmp_ge rfl (fun h2 => ?_) (fun h2 => ?_)
        · skip
          refine G_aload_n rfl rfl ?_
          refine H_getI rfl rfl rfl rfl ?_
          exact H_ret rfl rfl (h10) (rfl)
        · rw [h9, h6] at h2; exact absurd (Int32.le_refl _) h2
      · have hlt : p < n := by omega
        have eZ := TS_self Z h9 h10
        have c1 := ev_mhere Z R (ok := true) h6 hc (p := p) (by omega)
        rw [f28, mhe_in hlt, eZ] at c1
        have gl : gN s (S 28 p) = gNP (S 28 p) := gN_end y1 y2 (y4 hlt)
        by_cases h44 : S 28 p = 44
        · have c2 := ev_mtakes Z R (p := p) (ok := true) true
          rw [eZ] at c2
          have g0 : gF (S 28) n (n - p) p s = gF (S 28) n (n - (p + 1)) (p + 1) 0 := gF_s hlt (by rw [gl, h44]; rfl)
          obtain ⟨S1, p1, ok1, c3, F1, k9, k10, q1, q2, q3, q4⟩ := ev_mtakesPart Z R h6 hc (p := p + 1) (by omega)
          rw [f28] at q3 q4
          obtain ⟨S', p', ok', g, r1, r2, r2', r3, r4⟩ := ih p1 ok1 S1 (by omega) q2 (hF.tr F1) k9 k10 (fun z => by rw [y3, g0]; exact q3 z) (fun z => by
            obtain ⟨w1, w2, w3, w4, s', w5, w6, w7, w8, w9, w10⟩ := q4 z
            exact ⟨s', w5, w6, by rw [y3, g0]; exact w7, w8⟩)
          refine ⟨S', p', ok', ?_, r1, r2, r2', r3, r4⟩
          refine G_aload_n rfl rfl ?_
          refine H_getI rfl rfl rfl rfl ?_
          refine G_if_eq rfl (fun h => ?_) (fun h => ?_)
          · rw [h10] at h; exact absurd h (by decide)
          refine G_aload_n rfl rfl ?_
          refine H_getI rfl rfl rfl rfl ?_
          refine G_aload_n rfl rfl ?_
          refine H_getI rfl rfl rfl rfl ?_
          refine G_icmp_ge rfl (fun h2 => ?_) (fun h2 => ?_)
          · rw [h9, h6] at h2; exact absurd h2 (ge_no hlt (by omega))
          refine G_aload_n rfl rfl ?_
          refine G_aload_n rfl rfl ?_
          refine H_callV (c1) rfl rfl rfl rfl rfl rfl rfl rfl ?_
          refine G_bipush rfl ?_
          refine G_icmp_ne rfl (fun h3 => ?_) (fun h3 => ?_)
          · exact absurd h44 h3
          refine G_iconst rfl ?_
          refine G_goto rfl ?_
          refine H_callU (c2) rfl rfl rfl rfl rfl rfl rfl rfl ?_
          refine G_aload_n rfl rfl ?_
          refine H_getI rfl rfl rfl rfl ?_
          refine G_if_eq rfl (fun h4 => ?_) (fun h4 => ?_)
          · rw [TS_10] at h4; exact absurd h4 (by decide)
          refine G_aload_n rfl rfl ?_
          refine H_callU (c3) rfl rfl rfl rfl rfl rfl rfl rfl ?_
          refine G_goto rfl ?_
          exact g
        · have c2 := ev_mtakes Z R (p := p) (ok := true) false
          rw [eZ] at c2
          obtain ⟨S', p', ok', g, r1, r2, r2', r3, r4⟩ := off p (TS Z p false) hp (hF.tr PFr_TS) (TS_9 Z) (TS_10 Z) (by rw [y3]; exact gF_x hlt (by rw [gl]; exact gNP_n h44))
          refine ⟨S', p', ok', ?_, r1, r2, r2', r3, r4⟩
          refine G_aload_n rfl rfl ?_
          refine H_getI rfl rfl rfl rfl ?_
          refine G_if_eq rfl (fun h => ?_) (fun h => ?_)
          · rw [h10] at h; exact absurd h (by decide)
          refine G_aload_n rfl rfl ?_
          refine H_getI rfl rfl rfl rfl ?_
          refine G_aload_n rfl rfl ?_
          refine H_getI rfl rfl rfl rfl ?_
          refine G_icmp_ge rfl (fun h2 => ?_) (fun h2 => ?_)
          · rw [h9, h6] at h2; exact absurd h2 (ge_no hlt (by omega))
          refine G_aload_n rfl rfl ?_
          refine G_aload_n rfl rfl ?_
          refine H_callV (c1) rfl rfl rfl rfl rfl rfl rfl rfl ?_
          refine G_bipush rfl ?_
          refine G_icmp_ne rfl (fun h3 => ?_) (fun h3 => ?_)
          · skip
            refine G_iconst rfl ?_
            refine H_callU (c2) rfl rfl rfl rfl rfl rfl rfl rfl ?_
            refine G_aload_n rfl rfl ?_
            refine H_getI rfl rfl rfl rfl ?_
            refine G_if_eq rfl (fun h4 => ?_) (fun h4 => ?_)
            · exact g
            · exact absurd (TS_10 Z) h4
          · exact absurd (Decidable.of_not_not h3) h44
set_option maxRecDepth 100000 in
theorem ev_misText {n : Nat} (hn : S 24 6 = nI n) (hc : n ≤ 60) : ∃ S' p' ok', EvM kM_isText [.ref 24] (mk S R) (some (.int (b2i ok'))) (mk S' R) ∧ PFr S S' ∧ S' 24 9 = nI p' ∧ S' 24 10 = b2i ok' ∧ p' ≤ n ∧ gF (S 28) n n 0 0 = bif ok' then -4 else nI p' := by
  obtain ⟨S1, p1, ok1, c1, F1, k9, k10, q1, q2, q3, q4⟩ := ev_mtakesPart S R hn hc (p := 0) (by omega)
  obtain ⟨S', p', ok', g, r1, r2, r2', r3, r4⟩ := it_loop S R hn hc n p1 ok1 S1 (by omega) q2 F1 k9 k10 q3 (fun z => by
    obtain ⟨w1, w2, w3, w4, s', w5, w6, w7, w8, w9, w10⟩ := q4 z
    exact ⟨s', w5, w6, w7, w8⟩)
  refine ⟨S', p', ok', ?_, r1, r2, r2', r3, r4⟩
  refine EvM_mk [some (.ref 24)] rfl rfl rfl rfl rfl (okb _) ?_
  refine G_aload_n rfl rfl ?_
  refine G_iconst rfl ?_
  refine H_putI rfl rfl rfl rfl ?_
  refine G_aload_n rfl rfl ?_
  refine G_iconst rfl ?_
  refine H_putI rfl rfl rfl rfl ?_
  refine G_aload_n rfl rfl ?_
  rw [u2_u2, u2_same]
  refine H_callU (c1) rfl rfl rfl rfl rfl rfl rfl rfl ?_
  exact g
set_option maxRecDepth 100000 in
theorem mm_fault {n : Nat} (hn : S 24 6 = nI n) (hc : n ≤ 60) : ∃ S', EvM kM_fault [.ref 24] (mk S R) (some (.int (gF (S 28) n n 0 0))) (mk S' R) ∧ PFr S S' := by
  obtain ⟨S', p', ok', c1, F, k9, k10, kn, hg⟩ := ev_misText S R hn hc
  refine ⟨S', ?_, F⟩
  rw [hg]
  cases ok' with
  | false =>
    refine EvM_mk [some (.ref 24)] rfl rfl rfl rfl rfl (trivial) ?_
    refine G_aload_n rfl rfl ?_
    refine H_callV (c1) rfl rfl rfl rfl rfl rfl rfl rfl ?_
    refine G_if_eq rfl (fun h => ?_) (fun h => ?_)
    · skip
      refine G_aload_n rfl rfl ?_
      refine H_getI rfl rfl rfl rfl ?_
      exact H_ret rfl rfl (k9) (rfl)
    · exact absurd rfl h
  | true =>
    refine EvM_mk [some (.ref 24)] rfl rfl rfl rfl rfl (trivial) ?_
    refine G_aload_n rfl rfl ?_
    refine H_callV (c1) rfl rfl rfl rfl rfl rfl rfl rfl ?_
    refine G_if_eq rfl (fun h => ?_) (fun h => ?_)
    · exact absurd h (by decide)
    refine G_bipush rfl ?_
    refine G_goto rfl ?_
    exact H_ret rfl rfl (rfl) (rfl)
end MT5
