/-! the document's own reckoning: texts, part 3: a whole number -/
/-- a number from p on: all is well behind it or not -/
def PN (f : Nat → Int32) (n p p' : Nat) (ok' : Bool) (v : Int32) : Prop := p ≤ p' ∧ p' ≤ n ∧ (ok' = false → gF f n (n - p) p 3 = nI p') ∧ (ok' = true → p < p' ∧ isNb v = true ∧ ∃ s, 5 ≤ s ∧ s ≤ 7 ∧ gF f n (n - p) p 3 = gF f n (n - p') p' s ∧ (p' < n → gDig (f p') = true → s = 7) ∧ ((p' < n → gDig (f p') = false) → v = nvx f n p) ∧ ∀ j, p ≤ j → j < p' → f j ≠ 44)
theorem isNb_nI {w : Nat} (h : w ≤ 999) (b : Bool) : isNb (bif b then -(nI w) else nI w) = true := by
  have e := nI_toInt (show w < 2 ^ 31 by omega)
  rw [isNb_iff]
  cases b with
  | true => rw [cond_true, neg_b (by omega) (by omega)]; omega
  | false => rw [cond_false]; omega
theorem gFD_t {x : Int32} (h : gDig x = true) (h2 : x ≠ 48) : gFD x = some 5 := by unfold gFD; rw [h, decide_eq_false h2]; rfl
theorem gFD_f {x : Int32} (h : (gDig x && !decide (x = 48)) = false) : gFD x = none := by unfold gFD; rw [h]; rfl
theorem gN3 (x : Int32) : gN 3 x = bif decide (x = 48) then some 7 else (bif decide (x = 45) then some 4 else gFD x) := rfl
theorem ne_48d {d c : Nat} (h : c < 48) : nI (48 + d) ≠ nI c ∨ 2 ^ 31 ≤ 48 + d := by
  by_cases q : 48 + d < 2 ^ 31
  · exact Or.inl (fun e => by have := (nI_eq q (show c < 2 ^ 31 by omega)).mp e; omega)
  · exact Or.inr (by omega)
section NVX
variable {f : Nat → Int32} {n p d : Nat}
theorem nvx_pos (hp : p < n) (hn : n ≤ 60) (hd : d ≤ 9) (e : f p = nI (48 + d)) : nvx f n p = nvv f (n - (p + 1)) (p + 1) (nI d) := by
  have ne : ¬ f p = 45 := fun q => by
    rw [e] at q
    have := (nI_eq (show 48 + d < 2 ^ 31 by omega) (show 45 < 2 ^ 31 by decide)).mp q
    omega
  have hg : gDig (f p) = true := gDig_iff.mpr (by rw [e, nI_toInt (by omega)]; omega)
  have es := stepv (w := 0) (d := d)
  rw [Nat.mul_zero, Nat.zero_add] at es
  unfold nvx
  rw [tx_in hp (by omega), decide_eq_false ne, cond_false, nvv_s hp hg, e, Int32.mul_comm]
  exact congrArg _ es
theorem nvx_neg (hn : n ≤ 60) (h45 : f p = 45) (hp : p + 1 < n) (hd : d ≤ 9) (e : f (p + 1) = nI (48 + d)) : nvx f n p = -(nvv f (n - (p + 1 + 1)) (p + 1 + 1) (nI d)) := by
  have hg : gDig (f (p + 1)) = true := gDig_iff.mpr (by rw [e, nI_toInt (by omega)]; omega)
  have es := stepv (w := 0) (d := d)
  rw [Nat.mul_zero, Nat.zero_add] at es
  unfold nvx
  rw [tx_in (show p < n by omega) (by omega), decide_eq_true h45, cond_true, nvv_s hp hg, e, Int32.mul_comm]
  exact congrArg (fun z => -(nvv f (n - (p + 1 + 1)) (p + 1 + 1) z)) es
end NVX
section MT3
variable (S : Nat → Nat → Int32) (R : Nat → Nat)
set_option maxRecDepth 100000 in
theorem tn_mid {n p : Nat} {ok b : Bool} {S' : Nat → Nat → Int32} (hn : S 24 6 = nI n) (hc : n ≤ 60) (hp : p < 1000) (g : Gm kM_takesNumber 67 [some (.ref 24), some (.int (b2i b)), some (.int (mhe (S 28) n p - 48))] [] (TS S (p + (bif ok && mIn (mhe (S 28) n p - 48) (b2i b) 9 then 1 else 0)) (ok && mIn (mhe (S 28) n p - 48) (b2i b) 9), PF R, 32) none (S', PF R, 32)) : ∀ l2, Gm kM_takesNumber 40 [some (.ref 24), some (.int (b2i b)), l2] [] (TS S p ok, PF R, 32) none (S', PF R, 32) := by
  intro l2
  have c1 := ev_mhere S R (ok := ok) hn hc (p := p) hp
  have c2 := ev_min (TS S p ok) R (mhe (S 28) n p - 48) (b2i b) 9
  have c3 := ev_mtakes S R (p := p) (ok := ok) (mIn (mhe (S 28) n p - 48) (b2i b) 9)
  refine G_aload_n rfl rfl ?_
  refine H_callV (c1) rfl rfl rfl rfl rfl rfl rfl rfl ?_
  refine G_bipush rfl ?_
  refine G_isub rfl ?_
  refine H_ist_3_2 rfl rfl ?_
  refine G_aload_n rfl rfl ?_
  refine G_iload_n rfl rfl ?_
  refine G_iload_n rfl rfl ?_
  refine G_if_eq rfl (fun h => ?_) (fun h => ?_)
  · rw [b2i_0.mp h] at c2 c3 g ⊢
    refine G_iconst rfl ?_
    refine G_bipush rfl ?_
    refine H_callS (c2) rfl rfl rfl rfl rfl ?_
    refine H_callU (c3) rfl rfl rfl rfl rfl rfl rfl rfl ?_
    exact g
  · rw [b2i_n0.mp h] at c2 c3 g ⊢
    refine G_iconst rfl ?_
    refine G_goto rfl ?_
    refine G_bipush rfl ?_
    refine H_callS (c2) rfl rfl rfl rfl rfl ?_
    refine H_callU (c3) rfl rfl rfl rfl rfl rfl rfl rfl ?_
    exact g
theorem tn_dig {n p : Nat} (hn : S 24 6 = nI n) (hc : n ≤ 60) (b : Bool) (hp : p ≤ n) : ∃ p' ok' v, (∀ l2, Gm kM_takesNumber 40 [some (.ref 24), some (.int (b2i b)), l2] [] (TS S p true, PF R, 32) none (u2 (TS S p' ok') 24 (upd (TS S p' ok' 24) 13 v), PF R, 32)) ∧ (ok' = false → p' = p ∧ mIn (mhe (S 28) n p - 48) (b2i b) 9 = false) ∧ (ok' = true → mIn (mhe (S 28) n p - 48) (b2i b) 9 = true ∧ p < n ∧ ∃ d s s' w', d ≤ 9 ∧ S 28 p = nI (48 + d) ∧ wsK d s ∧ PD (S 28) n (p + 1) s d p' s' w' ∧ v = bif b then -(nI w') else nI w') := by
  cases hm : mIn (mhe (S 28) n p - 48) (b2i b) 9 with
  | false =>
    refine ⟨p, false, (bif b then -(mhe (S 28) n p - 48) else mhe (S 28) n p - 48), tn_mid S R hn hc (by omega) ?_, fun _ => ⟨rfl, rfl⟩, fun q => by cases q⟩
    rw [hm]
    exact tn_off S R p b _
  | true =>
    have hg : gDig (mhe (S 28) n p) = true := by
      rw [← mIn_dig, mIn_iff]
      rw [mIn_iff] at hm
      refine ⟨Int.le_trans ?_ hm.1, hm.2⟩
      cases b <;> decide
    have q : p < n := Decidable.byContradiction fun q => by rw [mhe_out q, gDig_0] at hg; cases hg
    rw [mhe_in q] at hg
    obtain ⟨d, hd, e⟩ := gDig_v hg
    have es : mhe (S 28) n p - 48 = nI d := by
      rw [mhe_in q, e, show nI (48 + d) = 48 + nI d by rw [← nI_add]; rfl]
      grind
    obtain ⟨s, hw⟩ : ∃ s, wsK d s := by
      unfold wsK
      by_cases z : d = 0
      · exact ⟨7, by omega⟩
      · exact ⟨5, by omega⟩
    obtain ⟨p', s', w', g, hP⟩ := tn_loop S R hn hc b (n - (p + 1)) (p + 1) d s (by omega) hw
    refine ⟨p', true, (bif b then -(nI w') else nI w'), tn_mid S R hn hc (by omega) ?_, fun q => (by cases q), fun _ => ⟨rfl, q, d, s, s', w', hd, e, hw, hP, rfl⟩⟩
    rw [hm, es]
    exact g
set_option maxRecDepth 100000 in
theorem ev_mtakesNumber0 {n p : Nat} (hn : S 24 6 = nI n) (hc : n ≤ 60) (hp : p < 1000) : ∃ v, EvM kM_takesNumber [.ref 24] (mk (TS S p false) R) none (mk (u2 (TS S p false) 24 (upd (TS S p false 24) 13 v)) R) := by
  refine ⟨mhe (S 28) n p - 48, ?_⟩
  refine EvM_mk [some (.ref 24), none, none] rfl rfl rfl rfl rfl (trivial) ?_
  refine G_aload_n rfl rfl ?_
  refine H_getI rfl rfl rfl rfl ?_
  refine G_if_eq rfl (fun q => ?_) (fun q => ?_)
  · skip
    refine G_iconst rfl ?_
    refine H_ist_3_1 rfl rfl ?_
    refine G_aload_n rfl rfl ?_
    refine G_dup rfl rfl ?_
    refine H_getI rfl rfl rfl rfl ?_
    refine G_iload_n rfl rfl ?_
    refine G_if_eq rfl (fun q2 => ?_) (fun q2 => ?_)
    · skip
      refine G_iconst rfl ?_
      refine G_iadd rfl ?_
      refine H_putI rfl rfl rfl rfl ?_
      rw [TS_9, Int32.add_zero, TS_sp]
      exact tn_mid S R (ok := false) (b := false) hn hc hp (tn_off S R p false _) none
    · exact absurd rfl q2
  · exact absurd (TS_10 S) q
set_option maxRecDepth 100000 in
theorem ev_mtakesNumber {n p : Nat} (hn : S 24 6 = nI n) (hc : n ≤ 60) (hp : p ≤ n) : ∃ p' ok' v, EvM kM_takesNumber [.ref 24] (mk (TS S p true) R) none (mk (u2 (TS S p' ok') 24 (upd (TS S p' ok' 24) 13 v)) R) ∧ PN (S 28) n p p' ok' v := by
  have c1 := ev_mhere S R (ok := true) hn hc (p := p) (by omega)
  have n48 : ∀ d, d ≤ 9 → nI (48 + d) ≠ 44 := fun d hd z => by
    have := (nI_eq (show 48 + d < 2 ^ 31 by omega) (show 44 < 2 ^ 31 by decide)).mp z
    omega
  have e0 : nI (48 + 0) = 48 := rfl
  have n480 : ∀ d, d ≤ 9 → d ≠ 0 → nI (48 + d) ≠ 48 := fun d hd h0 z => by
    have := (nI_eq (show 48 + d < 2 ^ 31 by omega) (show 48 < 2 ^ 31 by decide)).mp z
    omega
  by_cases h45 : mhe (S 28) n p = 45
  · have hm := gF_ms (f := S 28) (n := n) (p := p) (s := 3) (s' := 4) (by decide) (by rw [h45]; decide)
    obtain ⟨hq, he, hg⟩ := hm
    obtain ⟨p', ok', v, g, k0, k1⟩ := tn_dig S R hn hc true (p := p + 1) (by omega)
    refine ⟨p', ok', v, ?_, ?_⟩
    · skip
      refine EvM_mk [some (.ref 24), none, none] rfl rfl rfl rfl rfl (trivial) ?_
      refine G_aload_n rfl rfl ?_
      refine H_getI rfl rfl rfl rfl ?_
      refine G_if_eq rfl (fun q => ?_) (fun q => ?_)
      · rw [TS_10] at q; exact absurd q (by decide)
      refine G_aload_n rfl rfl ?_
      refine H_callV (c1) rfl rfl rfl rfl rfl rfl rfl rfl ?_
      refine G_bipush rfl ?_
      refine G_icmp_ne rfl (fun q2 => ?_) (fun q2 => ?_)
      · exact absurd h45 q2
      refine G_iconst rfl ?_
      refine G_goto rfl ?_
      refine H_ist_3_1 rfl rfl ?_
      refine G_aload_n rfl rfl ?_
      refine G_dup rfl rfl ?_
      refine H_getI rfl rfl rfl rfl ?_
      refine G_iload_n rfl rfl ?_
      refine G_if_eq rfl (fun q3 => ?_) (fun q3 => ?_)
      · exact absurd q3 (by decide)
      refine G_iconst rfl ?_
      refine G_goto rfl ?_
      refine G_iadd rfl ?_
      refine H_putI rfl rfl rfl rfl ?_
      rw [TS_9, ← nI_succ, TS_sp]
      exact g none
    · cases ok' with
      | false =>
        obtain ⟨rfl, k⟩ := k0 rfl
        refine ⟨by omega, by omega, fun _ => ?_, fun q => by cases q⟩
        rw [hg]
        refine gF_m (by omega) (by decide) (by decide) ?_
        refine gFD_f ?_
        rw [← mIn_dig1]
        exact k
      | true =>
        obtain ⟨k, hp1, d, s, s', w', hd, e, hw, hP, rfl⟩ := k1 rfl
        obtain ⟨z1, z2, z3, z4, z5, z6, z7⟩ := hP
        have k : mIn (mhe (S 28) n (p + 1) - 48) 1 9 = true := k
        rw [mIn_dig1, mhe_in hp1, Bool.and_eq_true, Bool.not_eq_true', decide_eq_false_iff_not] at k
        have d0 : d ≠ 0 := fun q => k.2 (by rw [e, q]; rfl)
        have s5 : s = 5 := by unfold wsK at hw; omega
        subst s5
        have ew : s' ≤ 7 ∧ 5 ≤ s' ∧ w' ≤ 999 := by unfold wsK at z3; omega
        refine ⟨by omega, z2, fun q => (by cases q), fun _ => ⟨by omega, isNb_nI ew.2.2 true, s', ew.2.1, ew.1, ?_, z5, fun q => ?_, fun j j1 j2 => ?_⟩⟩
        · rw [hg, ← z4]
          exact gF_s hp1 (gFD_t k.1 k.2)
        · rw [nvx_neg hc (by rw [← he]; exact h45) hp1 hd e, z6 q]
          rfl
        · by_cases q1 : j = p
          · rw [q1, ← he, h45]; decide
          by_cases q2 : j = p + 1
          · rw [q2, e]; exact n48 d hd
          · exact z7 j (by omega) j2
  · obtain ⟨p', ok', v, g, k0, k1⟩ := tn_dig S R hn hc false hp
    refine ⟨p', ok', v, ?_, ?_⟩
    · skip
      refine EvM_mk [some (.ref 24), none, none] rfl rfl rfl rfl rfl (trivial) ?_
      refine G_aload_n rfl rfl ?_
      refine H_getI rfl rfl rfl rfl ?_
      refine G_if_eq rfl (fun q => ?_) (fun q => ?_)
      · rw [TS_10] at q; exact absurd q (by decide)
      refine G_aload_n rfl rfl ?_
      refine H_callV (c1) rfl rfl rfl rfl rfl rfl rfl rfl ?_
      refine G_bipush rfl ?_
      refine G_icmp_ne rfl (fun q2 => ?_) (fun q2 => ?_)
      · skip
        refine G_iconst rfl ?_
        refine H_ist_3_1 rfl rfl ?_
        refine G_aload_n rfl rfl ?_
        refine G_dup rfl rfl ?_
        refine H_getI rfl rfl rfl rfl ?_
        refine G_iload_n rfl rfl ?_
        refine G_if_eq rfl (fun q3 => ?_) (fun q3 => ?_)
        · skip
          refine G_iconst rfl ?_
          refine G_iadd rfl ?_
          refine H_putI rfl rfl rfl rfl ?_
          rw [TS_9, Int32.add_zero, TS_sp]
          exact g none
        · exact absurd rfl q3
      · exact absurd (Decidable.of_not_not q2) h45
    · cases ok' with
      | false =>
        obtain ⟨rfl, k⟩ := k0 rfl
        refine ⟨by omega, by omega, fun _ => ?_, fun q => by cases q⟩
        have k : mIn (mhe (S 28) n p' - 48) 0 9 = false := k
        rw [mIn_dig] at k
        refine gF_m hp (by decide) (by decide) ?_
        rw [gN3, decide_eq_false h45, decide_eq_false (fun z => by rw [z] at k; revert k; decide), cond_false, cond_false]
        exact gFD_f (by rw [k]; rfl)
      | true =>
        obtain ⟨k, hp1, d, s, s', w', hd, e, hw, hP, rfl⟩ := k1 rfl
        obtain ⟨z1, z2, z3, z4, z5, z6, z7⟩ := hP
        have k : mIn (mhe (S 28) n p - 48) 0 9 = true := k
        rw [mIn_dig, mhe_in hp1] at k
        rw [mhe_in hp1] at h45
        have ew : s' ≤ 7 ∧ 5 ≤ s' ∧ w' ≤ 999 := by unfold wsK at z3; omega
        refine ⟨by omega, z2, fun q => (by cases q), fun _ => ⟨by omega, isNb_nI ew.2.2 false, s', ew.2.1, ew.1, ?_, z5, fun q => ?_, fun j j1 j2 => ?_⟩⟩
        · rw [← z4]
          refine gF_s hp1 ?_
          rw [gN3]
          by_cases d0 : d = 0
          · subst d0
            have : s = 7 := by unfold wsK at hw; omega
            rw [this, e]; rfl
          · have : s = 5 := by unfold wsK at hw; omega
            have e48 : ¬ S 28 p = 48 := by rw [e]; exact n480 d hd d0
            rw [this, decide_eq_false e48, decide_eq_false h45, cond_false, cond_false]
            exact gFD_t k e48
        · rw [nvx_pos hp1 hc hd e, z6 q]
          rfl
        · by_cases q1 : j = p
          · rw [q1, e]; exact n48 d hd
          · exact z7 j (by omega) j2
end MT3
