/-! Walk.meets -/
def wProc (row : Nat → Int32) (S : Nat → Nat → Int32) (i : Nat) : Prop := ∀ k, k < i → ∀ x, x < 20 → S 19 k = nI x → ∀ j, j < 96 → hs row j = true → (12 + j / 12 = x → S 17 (j % 12) = 1) ∧ (j % 12 = x → S 17 (12 + j / 12) = 1)
theorem cnt_none {f : Nat → Bool} {n : Nat} (h : ∀ i, i < n → f i = false) : cnt f n = 0 := cnt_0.mpr h
theorem WI_base {row : Nat → Int32} {a : Nat} (ha : a < 20) {S : Nat → Nat → Int32} (h0 : ∀ x, x < 20 → S 17 x = 0) : WI row a (wMeet S a 0 0) 1 := by
  have e17 : wMeet S a 0 0 17 = upd (S 17) a 1 := by simp [wMeet, u2]
  have e18 : wMeet S a 0 0 18 = upd (S 18) a 0 := by simp [wMeet, u2]
  have e19 : wMeet S a 0 0 19 = upd (S 19) 0 (nI a) := by simp [wMeet, u2]
  have h01 : ¬ (0 : Int32) = 1 := by decide
  have one : ∀ x, x < 20 → upd (S 17) a 1 x = 1 → x = a := fun x hx h => by
    unfold upd at h
    split at h
    · assumption
    · rw [h0 x hx] at h; exact absurd h h01
  refine ⟨by simp [wMeet, u2, upd], ?_, ?_, ?_, ?_⟩
  · rw [e17, e18]
    exact SI_0 upd_same (fun x hx e => by rw [upd_ne e]; exact h0 x hx) upd_same
  · rw [e17]
    have := cnt_up (f := fun x => decide (S 17 x = 1)) (g := fun x => decide (upd (S 17) a 1 x = 1)) (x := a) (by simp [h0 a ha]) (by simp [upd]) (fun y hy => by simp only [upd_ne hy]) (n := 20) ha
    rw [this, cnt_none (fun i hi => by simp [h0 i hi])]
  · rw [e17, e19]
    intro i hi
    rw [show i = 0 by omega]
    exact ⟨a, ha, upd_same, upd_same⟩
  · rw [e17, e19]
    intro x hx h
    exact ⟨0, by omega, by rw [upd_same, one x hx h]⟩
set_option maxRecDepth 100000 in
theorem ev_meets {q w : Nat} (hq : TQ q w) (R : Nat → Nat) {a c T : Nat} (ha : a < 20) (hc : c < 20) (S : Nat → Nat → Int32) (hT : NT (S w) T) : ∃ S' b, EvM kWalk_meets [.ref 16, .ref q, .int (nI a), .int (nI c)] (mk S R) (some (.int (b2i b))) (mk S' R) ∧ wFr S S' ∧ (b = true ↔ Cn (S w) a c) ∧ ∀ π, Pot (S w) π → b = true → S' 18 c = π c - π a := by
  have hw : w = 2 ∨ w = 21 := by rcases hq with ⟨_, rfl⟩ | ⟨_, rfl⟩ <;> simp
  have h1 := fun S => ev_isNode S R (nI a)
  have h2 := fun S => ev_isNode S R (nI c)
  rw [isNd_nI ha] at h1
  rw [isNd_nI hc] at h2
  have fin : ∀ i S1 n1, WI (S w) a S1 n1 → wFr S S1 → (S1 17 c = 1 ∨ (n1 ≤ i ∧ wProc (S w) S1 i)) → ∃ S' b, Gm kWalk_meets 127 [some (.ref 16), some (.ref q), some (.int (nI a)), some (.int (nI c)), some (.int (nI i))] [] (S1, PF R, 24) (some (.int (b2i b))) (S', PF R, 24) ∧ wFr S S' ∧ (b = true ↔ Cn (S w) a c) ∧ ∀ π, Pot (S w) π → b = true → S' 18 c = π c - π a := by
    intro i S1 n1 hW hF hor
    refine ⟨S1, decide (S1 17 c = 1), ?_, hF, ?_, fun π hπ hb => hW.2.1.2.2.2 π hπ c hc (of_decide_eq_true hb)⟩
    · skip
      refine G_aload_n rfl rfl ?_
      refine H_getR rfl rfl rfl rfl rfl rfl ?_
      refine G_iload_n rfl rfl ?_
      refine H_bald rfl (rfl) (rfl) (hc) (rfl) ?_
      refine H_ret rfl rfl ?_ rfl
      rcases hW.2.1.2.1 c hc with e | e <;> rw [e] <;> rfl
    · refine ⟨fun hb => hW.2.1.2.2.1 c hc (of_decide_eq_true hb), fun hcn => decide_eq_true ?_⟩
      rcases hor with h | ⟨hi, hp⟩
      · exact h
      · refine hcn (fun z => z < 20 → S1 17 z = 1) (fun j hj hh => ?_) (fun _ => hW.2.1.1) hc
        constructor
        · intro hz _
          obtain ⟨k, hk, e⟩ := hW.2.2.2.2 (12 + j / 12) (by omega) (hz (by omega))
          exact (hp k (by omega) (12 + j / 12) (by omega) e j hj hh).1 rfl
        · intro hz _
          obtain ⟨k, hk, e⟩ := hW.2.2.2.2 (j % 12) (by omega) (hz (by omega))
          exact (hp k (by omega) (j % 12) (by omega) e j hj hh).2 rfl
  have loop : ∀ d i S1 n1, i + d = 20 → WI (S w) a S1 n1 → wFr S S1 → i ≤ n1 → wProc (S w) S1 i → ∃ S' b, Gm kWalk_meets 54 [some (.ref 16), some (.ref q), some (.int (nI a)), some (.int (nI c)), some (.int (nI i))] [] (S1, PF R, 24) (some (.int (b2i b))) (S', PF R, 24) ∧ wFr S S' ∧ (b = true ↔ Cn (S w) a c) ∧ ∀ π, Pot (S w) π → b = true → S' 18 c = π c - π a := by
    intro d
    induction d with
    | zero =>
      intro i S1 n1 hi hW hF hin hp
      have hn20 : n1 ≤ 20 := by rw [← hW.2.2.1]; exact cnt_le _ _
      obtain ⟨S', b, g, r⟩ := fin i S1 n1 hW hF (Or.inr ⟨by omega, hp⟩)
      refine ⟨S', b, ?_, r⟩
      refine G_iload rfl rfl ?_
      refine G_aload_n rfl rfl ?_
      refine H_getI rfl rfl rfl rfl ?_
      refine G_icmp_ge rfl (fun h => ?_) (fun h => ?_)
      · exact g
      · exact absurd (by rw [hW.1]; exact nI_le (by omega) (by omega)) h
    | succ d ih =>
      intro i S1 n1 hi hW hF hin hp
      have hn20 : n1 ≤ 20 := by rw [← hW.2.2.1]; exact cnt_le _ _
      by_cases hlt : i < n1
      · by_cases hmc : S1 17 c = 1
        · obtain ⟨S', b, g, r⟩ := fin i S1 n1 hW hF (Or.inl hmc)
          refine ⟨S', b, ?_, r⟩
          refine G_iload rfl rfl ?_
          refine G_aload_n rfl rfl ?_
          refine H_getI rfl rfl rfl rfl ?_
          refine G_icmp_ge rfl (fun h => ?_) (fun h => ?_)
          · exact g
          refine G_iload rfl rfl ?_
          refine G_bipush rfl ?_
          refine G_icmp_ge rfl (fun h => ?_) (fun h => ?_)
          · exact g
          refine G_aload_n rfl rfl ?_
          refine H_getR rfl rfl rfl rfl rfl rfl ?_
          refine G_iload_n rfl rfl ?_
          refine H_bald rfl (rfl) (rfl) (hc) (rfl) ?_
          refine G_if_ne rfl (fun h => ?_) (fun h => ?_)
          · exact g
          · exact absurd (by rw [hmc]; decide) h
        · have hm0 : S1 17 c = 0 := by
            rcases hW.2.1.2.1 c hc with e | e
            · exact e
            · exact absurd e hmc
          obtain ⟨x, hx, ex, mx⟩ := hW.2.2.2.1 i hlt
          have hwS : S1 w = S w := hF w (by omega) (by omega) (by omega) (by omega)
          have next : ∃ S2 n2, WI (S w) a S2 n2 ∧ wExt S1 S2 n1 n2 ∧ wProc (S w) S2 (i + 1) ∧ ((x < 12 ∧ EvM kWalk_goFromPoint [.ref 16, .ref q, .int (nI x)] (mk S1 R) none (mk S2 R)) ∨ (¬ x < 12 ∧ EvM kWalk_goFromTape [.ref 16, .ref q, .int (nI (x - 12))] (mk S1 R) none (mk S2 R))) := by
            have old : ∀ (S2 : Nat → Nat → Int32) (n2 : Nat), wExt S1 S2 n1 n2 → (∀ j, j < 96 → hs (S w) j = true → (12 + j / 12 = x → S2 17 (j % 12) = 1) ∧ (j % 12 = x → S2 17 (12 + j / 12) = 1)) → wProc (S w) S2 (i + 1) := fun S2 n2 hx2 hnew k hk y hy ey j hj hh => by
              rw [hx2.2.2.2 k (by omega)] at ey
              by_cases e : k = i
              · subst e
                have : x = y := (nI_eq (by omega) (by omega)).mp (ex.symm.trans ey)
                subst this
                exact hnew j hj hh
              · have := hp k (by omega) y hy ey j hj hh
                exact ⟨fun q => hx2.2.2.1 _ (by omega) (this.1 q), fun q => hx2.2.2.1 _ (by omega) (this.2 q)⟩
            by_cases h12 : x < 12
            · obtain ⟨S2, n2, e2, w2, x2, m2⟩ := ev_goFromPoint hq R (a := a) (p := x) (T := T) h12 S1 (n := n1) (by rw [hwS]; exact hT) (by rw [hwS]; exact hW) mx
              rw [hwS] at w2 m2
              refine ⟨S2, n2, w2, x2, old S2 n2 x2 (fun j hj hh => ⟨fun e => by omega, fun e => ?_⟩), Or.inl ⟨h12, e2⟩⟩
              exact m2 (j / 12) (by omega) (by rw [← e, show j / 12 * 12 + j % 12 = j by omega]; exact hh)
            · obtain ⟨S2, n2, e2, w2, x2, m2⟩ := ev_goFromTape hq R (a := a) (t := x - 12) (by omega) S1 (n := n1) (by rw [hwS]; exact hW) (by rw [show 12 + (x - 12) = x by omega]; exact mx)
              rw [hwS] at w2 m2
              refine ⟨S2, n2, w2, x2, old S2 n2 x2 (fun j hj hh => ⟨fun e => ?_, fun e => by omega⟩), Or.inr ⟨h12, e2⟩⟩
              exact m2 (j % 12) (by omega) (by rw [show x - 12 = j / 12 by omega, show j / 12 * 12 + j % 12 = j by omega]; exact hh)
          obtain ⟨S2, n2, w2, x2, p2, hor⟩ := next
          obtain ⟨S', b, g, r⟩ := ih (i + 1) S2 n2 (by omega) w2 (hF.tr x2.1) (by have := x2.2.1; omega) p2
          refine ⟨S', b, ?_, r⟩
          rw [nI_succ] at g
          refine G_iload rfl rfl ?_
          refine G_aload_n rfl rfl ?_
          refine H_getI rfl rfl rfl rfl ?_
          refine G_icmp_ge rfl (fun h => ?_) (fun h => ?_)
          · exact absurd (by rw [hW.1] at h; exact h) (ge_no hlt (by omega))
          refine G_iload rfl rfl ?_
          refine G_bipush rfl ?_
          refine G_icmp_ge rfl (fun h => ?_) (fun h => ?_)
          · exact absurd h (ge_no (n := 20) (by omega) (by decide))
          refine G_aload_n rfl rfl ?_
          refine H_getR rfl rfl rfl rfl rfl rfl ?_
          refine G_iload_n rfl rfl ?_
          refine H_bald rfl (rfl) (rfl) (hc) (rfl) ?_
          refine G_if_ne rfl (fun h => ?_) (fun h => ?_)
          · exact absurd hm0 h
          refine G_aload_n rfl rfl ?_
          refine H_getR rfl rfl rfl rfl rfl rfl ?_
          refine G_iload rfl rfl ?_
          refine H_iald rfl (rfl) (rfl) ((show i < 20 by omega)) (rfl) ?_
          rw [ex]
          refine G_bipush rfl ?_
          refine G_icmp_ge rfl (fun h => ?_) (fun h => ?_)
          · rcases hor with ⟨h12, ev⟩ | ⟨h12, ev⟩
            · exact absurd h (ge_no (n := 12) h12 (by decide))
            refine G_aload_n rfl rfl ?_
            refine G_aload_n rfl rfl ?_
            refine G_aload_n rfl rfl ?_
            refine H_getR rfl rfl rfl rfl rfl rfl ?_
            refine G_iload rfl rfl ?_
            refine H_iald rfl (rfl) (rfl) ((show i < 20 by omega)) (rfl) ?_
            rw [ex]
            have e12 : nI x - 12 = nI (x - 12) := pk_sub (a := x) (b := 12) (by omega)
            refine G_bipush rfl ?_
            refine G_isub rfl ?_
            rw [e12]
            refine H_callU (ev) rfl rfl rfl rfl rfl rfl rfl rfl ?_
            refine H_inc_5_4 rfl rfl ?_
            refine G_goto rfl ?_
            exact g
          · rcases hor with ⟨h12, ev⟩ | ⟨h12, ev⟩
            · skip
              refine G_aload_n rfl rfl ?_
              refine G_aload_n rfl rfl ?_
              refine G_aload_n rfl rfl ?_
              refine H_getR rfl rfl rfl rfl rfl rfl ?_
              refine G_iload rfl rfl ?_
              refine H_iald rfl (rfl) (rfl) ((show i < 20 by omega)) (rfl) ?_
              rw [ex]
              refine H_callU (ev) rfl rfl rfl rfl rfl rfl rfl rfl ?_
              refine G_goto rfl ?_
              refine H_inc_5_4 rfl rfl ?_
              refine G_goto rfl ?_
              exact g
            · exact absurd (nI_le (a := 12) (by omega) (by omega)) h
      · obtain ⟨S', b, g, r⟩ := fin i S1 n1 hW hF (Or.inr ⟨by omega, hp⟩)
        refine ⟨S', b, ?_, r⟩
        refine G_iload rfl rfl ?_
        refine G_aload_n rfl rfl ?_
        refine H_getI rfl rfl rfl rfl ?_
        refine G_icmp_ge rfl (fun h => ?_) (fun h => ?_)
        · exact g
        · exact absurd (by rw [hW.1]; exact nI_le (by omega) (by omega)) h
  have e0 : ∀ x, x < 20 → (u2 (u2 S 17 (cpy (fun _ => 0) (S 17) 20)) 16 (upd (S 16) 3 0)) 17 x = 0 := fun x hx => by
    rw [u2_ne (by decide), u2_same]
    exact if_pos hx
  have fr0 : wFr S (wMeet (u2 (u2 S 17 (cpy (fun _ => 0) (S 17) 20)) 16 (upd (S 16) 3 0)) a 0 0) := fun i q1 q2 q3 q4 => by simp [wMeet, u2, q1, q2, q3, q4]
  obtain ⟨S', b, g, r⟩ := loop 20 0 _ 1 rfl (WI_base ha e0) fr0 (by decide) (fun k hk => absurd hk (Nat.not_lt_zero k))
  refine ⟨S', b, ?_, r⟩
  refine EvM_mk [some (.ref 16), some (.ref q), some (.int (nI a)), some (.int (nI c)), none] rfl rfl rfl rfl rfl (okb _) ?_
  refine G_iload_n rfl rfl ?_
  refine H_callSN (h1 S) rfl rfl rfl rfl rfl ?_
  refine G_if_eq rfl (fun h => ?_) (fun h => ?_)
  · exact absurd h (by decide)
  refine G_iload_n rfl rfl ?_
  refine H_callSN (h2 S) rfl rfl rfl rfl rfl ?_
  refine G_if_ne rfl (fun h => ?_) (fun h => ?_)
  · skip
    refine G_iconst rfl ?_
    refine H_ist_5_4 rfl rfl ?_
    have goal : Gm kWalk_meets 19 [some (.ref 16), some (.ref q), some (.int (nI a)), some (.int (nI c)), some (.int (nI 0))] [] (u2 S 17 (cpy (fun _ => 0) (S 17) 0), PF R, 24) (some (.int (b2i b))) (S', PF R, 24) := by
      refine down 20 (fun i => Gm kWalk_meets 19 [some (.ref 16), some (.ref q), some (.int (nI a)), some (.int (nI c)), some (.int (nI i))] [] (u2 S 17 (cpy (fun _ => 0) (S 17) i), PF R, 24) _ _) ?_ (fun i hi ih => ?_)
      · skip
        refine G_iload rfl rfl ?_
        refine G_bipush rfl ?_
        refine G_icmp_ge rfl (fun h => ?_) (fun h => ?_)
        · skip
          have ev1 := ev_meet_new (u2 (u2 S 17 (cpy (fun _ => 0) (S 17) 20)) 16 (upd (S 16) 3 0)) R (x := a) (n := 0) ha 0 (e0 a ha) (by rw [u2_same, upd_same]; rfl) (by decide)
          refine G_aload_n rfl rfl ?_
          refine G_iconst rfl ?_
          refine H_putI rfl rfl rfl rfl ?_
          refine G_aload_n rfl rfl ?_
          refine G_iload_n rfl rfl ?_
          refine G_iconst rfl ?_
          refine H_callU (ev1) rfl rfl rfl rfl rfl rfl rfl rfl ?_
          refine G_iconst rfl ?_
          refine H_ist_5_4 rfl rfl ?_
          exact g
        · exact absurd (by decide) h
      · skip
        refine G_iload rfl rfl ?_
        refine G_bipush rfl ?_
        refine G_icmp_ge rfl (fun h => ?_) (fun h => ?_)
        · exact absurd h (ge_no hi (by decide))
        refine G_aload_n rfl rfl ?_
        refine H_getR rfl rfl rfl rfl rfl rfl ?_
        refine G_iload rfl rfl ?_
        refine G_iconst rfl ?_
        refine H_bast rfl (rfl) rfl (hi) rfl (by decide) ?_
        refine H_inc_5_4 rfl rfl ?_
        refine G_goto rfl ?_
        rw [u2_same, u2_u2, show upd (cpy (fun _ => 0) (S 17) i) i 0 = _ from cpy_s (f := fun _ => 0), ← nI_succ]
        exact ih
    rw [cpy_0, u2_self] at goal
    exact goal
  · exact absurd (by decide) h
