/-! the document's own reckoning: texts, part 7: take -/
/-- how the taking ends -/
def TEnd (f : Nat → Int32) (n tk : Nat) (st : Option Int32) (Z Z' : Nat → Nat → Int32) : Prop := TFr Z Z' ∧ Z' 24 6 = 0 ∧ (st = none → Z' 24 14 = 0) ∧ ∀ r, st = some r → Z' 24 14 = 1 ∧ Z' 31 0 = r ∧ Z' 31 1 = nI tk ∧ Z' 31 2 = nI (sOf f tk n).2
section MTK
variable (R : Nat → Nat)
set_option maxRecDepth 100000 in
theorem mk_loop {f : Nat → Int32} {n T : Nat} (hc : n ≤ 60) : ∀ (l k : Nat) (Z : Nat → Nat → Int32) (row : Nat → Int32) (tk : Nat) (st : Option Int32) (row' : Nat → Int32), Z 24 6 = nI n → Z 28 = f → Z 24 10 = b2i true → Z 24 14 = 0 → CR row T (Z 25) → (∃ π, Pot row π) → cnt (hs row) 96 ≤ 40 → k + l = 1 + cm f n → TI f n l k Z → TK f n T l k row tk st row' → ∀ l2 l3, ∃ Z', Gm kM_take 26 [some (.ref 24), some (.int (nI k)), l2, l3] [] (Z, PF R, 32) (some (.int (nI tk))) (Z', PF R, 32) ∧ CR row' T (Z' 25) ∧ TEnd f n tk st Z Z' := by
  intro l
  induction l with
  | zero =>
    intro k Z row tk st row' h6 hf h10 h14 hC hπ h40 hk hI hT l2 l3
    obtain ⟨rfl, rfl, rfl⟩ := hT
    have h9 := hI.1 rfl
    refine ⟨u2 Z 24 (upd (Z 24) 6 0), ?_, by rw [u2_ne (by decide)]; exact hC, TFr_u (by decide), by rw [u2_same, upd_same], fun _ => by rw [u2_same, upd_ne (by decide)]; exact h14, fun r q => by cases q⟩
    refine G_aload_n rfl rfl ?_
    refine H_getI rfl rfl rfl rfl ?_
    refine G_if_ne rfl (fun h => ?_) (fun h => ?_)
    · exact absurd h14 h
    refine G_aload_n rfl rfl ?_
    refine H_getI rfl rfl rfl rfl ?_
    refine G_aload_n rfl rfl ?_
    refine H_getI rfl rfl rfl rfl ?_
    refine G_icmp_ge rfl (fun h2 => ?_) (fun h2 => ?_)
    · skip
      refine G_aload_n rfl rfl ?_
      refine G_iconst rfl ?_
      refine H_putI rfl rfl rfl rfl ?_
      refine G_iload_n rfl rfl ?_
      exact H_ret rfl rfl (rfl) (rfl)
    · exact absurd (by rw [h9, h6]; exact nI_le (by omega) (by omega)) h2
  | succ l ih =>
    intro k Z row tk st row' h6 hf h10 h14 hC hπ h40 hk hI hT l2 l3
    obtain ⟨h9, i1, i2, i3⟩ := hI.2 (Nat.succ_pos l)
    have eZ := TS_self Z h9 h10
    obtain ⟨S1, p1, ok1, t1, F1, k9, k10, hQ⟩ := ev_mtakesPart Z R h6 hc (p := (sOf f k n).2) (by omega)
    rw [eZ] at t1
    rw [hf] at hQ
    obtain ⟨rfl, q2, q3, q4, q5, q6, q7, q8⟩ := PQ_next hc hk i1 i2 i3 hQ
    obtain ⟨Z2, hZ2⟩ : ∃ Z2, Z2 = u2 S1 24 (upd (S1 24) 9 (nI (p1 + 1))) := ⟨_, rfl⟩
    have F2 : PFr Z Z2 := by rw [hZ2]; exact F1.tr (PFr_u (by decide))
    have C2 : CR row T (Z2 25) := by rw [F2.1 25 (by decide)]; exact hC
    have z9 : Z2 24 9 = nI (p1 + 1) := by rw [hZ2, u2_same, upd_same]
    have z10 : Z2 24 10 = b2i true := by rw [hZ2, u2_same, upd_ne (by decide)]; exact k10
    have z11 : Z2 24 11 = f (sOf f k n).2 - 48 := by rw [hZ2, u2_same, upd_ne (by decide)]; exact q3
    have z12 : Z2 24 12 = f ((sOf f k n).2 + 1) - 97 := by rw [hZ2, u2_same, upd_ne (by decide)]; exact q4
    have z13 : Z2 24 13 = nvx f n ((sOf f k n).2 + 3) := by rw [hZ2, u2_same, upd_ne (by decide)]; exact q6
    have z14 : Z2 24 14 = 0 := (F2.2 14 (by decide)).trans h14
    have z6 : Z2 24 6 = nI n := (F2.2 6 (by decide)).trans h6
    have z28 : Z2 28 = f := (F2.1 28 (by decide)).trans hf
    rw [q6] at q5
    have c2 := ev_merror Z2 R C2 h40 (Z2 24 11) (Z2 24 12) (Z2 24 13)
    obtain ⟨r, row1, tp, ha, hb⟩ := hT
    generalize ht : f (sOf f k n).2 - 48 = t at *
    generalize hq : f ((sOf f k n).2 + 1) - 97 = q at *
    generalize hx : nvx f n ((sOf f k n).2 + 3) = x at *
    generalize hst : (sOf f k n).2 = s0 at *
    obtain ⟨π, hπ⟩ := hπ
    have h10' := TP_10 tp hC.1 hπ
    have g40 := TP_40 tp hC.1 h40
    obtain ⟨gT, gπ⟩ := TP_good tp hC.1 ⟨π, hπ⟩
    -- the walk to the place where the answer is known
    have walk : ∀ (Z3 : Nat → Nat → Int32) (A : Int32) (S' : Nat → Nat → Int32), (∀ l3, Gm kM_take 76 [some (.ref 24), some (.int (nI k)), some (.int (nI s0)), l3] [.int x, .int q, .int t, .ref 24] (Z2, PF R, 32) (some (.int A)) (S', PF R, 32)) → Gm kM_take 26 [some (.ref 24), some (.int (nI k)), l2, l3] [] (Z, PF R, 32) (some (.int A)) (S', PF R, 32) := fun Z3 A S' g => by
      refine G_aload_n rfl rfl ?_
      refine H_getI rfl rfl rfl rfl ?_
      refine G_if_ne rfl (fun h => ?_) (fun h => ?_)
      · exact absurd h14 h
      refine G_aload_n rfl rfl ?_
      refine H_getI rfl rfl rfl rfl ?_
      refine G_aload_n rfl rfl ?_
      refine H_getI rfl rfl rfl rfl ?_
      refine G_icmp_ge rfl (fun h2 => ?_) (fun h2 => ?_)
      · rw [h9, h6] at h2; exact absurd h2 (ge_no i1 (by omega))
      refine G_aload_n rfl rfl ?_
      refine H_getI rfl rfl rfl rfl ?_
      refine H_ist_4_2 rfl rfl ?_
      refine G_aload_n rfl rfl ?_
      rw [h9]
      refine H_callU (t1) rfl rfl rfl rfl rfl rfl rfl rfl ?_
      refine G_aload_n rfl rfl ?_
      refine G_dup rfl rfl ?_
      refine H_getI rfl rfl rfl rfl ?_
      refine G_iconst rfl ?_
      refine G_iadd rfl ?_
      refine H_putI rfl rfl rfl rfl ?_
      rw [k9, ← nI_succ, ← hZ2]
      refine G_aload_n rfl rfl ?_
      refine G_aload_n rfl rfl ?_
      refine H_getI rfl rfl rfl rfl ?_
      refine G_aload_n rfl rfl ?_
      refine H_getI rfl rfl rfl rfl ?_
      refine G_aload_n rfl rfl ?_
      refine H_getI rfl rfl rfl rfl ?_
      rw [z11, z12, z13]
      exact g _
    rw [z11, z12, z13] at c2
    -- an answer that stops
    have stop : ¬ 10 < r → ∀ (Z3 : Nat → Nat → Int32), TFr Z2 Z3 → CR row1 T (Z3 25) → Z3 31 = Z2 31 → (∀ l3, (∀ l4, Gm kM_take 104 [some (.ref 24), some (.int (nI k)), some (.int (nI s0)), l4] [.int r] (Z3, PF R, 32) (some (.int (nI k))) (u2 (u2 (u2 Z3 24 (upd (Z3 24) 14 1)) 31 (upd (upd (upd (Z3 31) 0 r) 1 (nI k)) 2 (nI s0))) 24 (upd (upd (Z3 24) 14 1) 6 0), PF R, 32)) → Gm kM_take 76 [some (.ref 24), some (.int (nI k)), some (.int (nI s0)), l3] [.int x, .int q, .int t, .ref 24] (Z2, PF R, 32) (some (.int (nI k))) (u2 (u2 (u2 Z3 24 (upd (Z3 24) 14 1)) 31 (upd (upd (upd (Z3 31) 0 r) 1 (nI k)) 2 (nI s0))) 24 (upd (upd (Z3 24) 14 1) 6 0), PF R, 32)) → ∃ Z', Gm kM_take 26 [some (.ref 24), some (.int (nI k)), l2, l3] [] (Z, PF R, 32) (some (.int (nI tk))) (Z', PF R, 32) ∧ CR row' T (Z' 25) ∧ TEnd f n tk st Z Z' := fun hn Z3 F3 C3 e31 hw => by
      obtain ⟨rfl, rfl, rfl⟩ := hb hn
      refine ⟨_, walk Z3 _ _ (fun l3 => hw l3 (fun l4 => mk_stop R (h10' hn) l4)), ?_, ?_, ?_, fun z => (by cases z), fun r' z => ?_⟩
      · rw [u2_ne (by decide), u2_ne (by decide), u2_ne (by decide)]; exact C3
      · refine (TFr_P F2).tr (F3.tr ⟨fun i a1 a2 a3 a4 a5 => by rw [u2_ne a1, u2_ne a5, u2_ne a1], fun j a1 a2 => by rw [u2_same, upd_ne a1, upd_ne (by omega)]⟩)
      · rw [u2_same, upd_same]
      · cases z
        rw [hst]
        refine ⟨by rw [u2_same, upd_ne (by decide), upd_same], ?_, ?_, ?_⟩ <;> rw [u2_ne (show 31 ≠ 24 by decide), u2_same]
        · rw [upd_ne (by decide), upd_ne (by decide), upd_same]
        · rw [upd_ne (by decide), upd_same]
        · rw [upd_same]
    cases hr : rdOK row t q x with
    | false =>
      obtain ⟨er, erow⟩ := tp.1 hr
      rw [hr, cond_false] at c2
      have hn : ¬ 10 < r := by rw [er]; decide
      refine stop hn Z2 ⟨fun _ _ _ _ _ _ => rfl, fun _ _ _ => rfl⟩ (by rw [erow]; exact C2) rfl (fun l3 g => ?_)
      rw [er] at g ⊢
      refine H_callV (c2) rfl rfl rfl rfl rfl rfl rfl rfl ?_
      refine H_ist_4_3 rfl rfl ?_
      refine G_iload_n rfl rfl ?_
      refine G_if_ge rfl (fun h => ?_) (fun h => ?_)
      · exact absurd h (by decide)
      refine G_iload_n rfl rfl ?_
      refine G_goto rfl ?_
      exact g _
    | true =>
      rw [hr, cond_true] at c2
      by_cases h4 : tAll row T < 40
      · obtain ⟨a, b, e1, e2, ha8, hb12, en⟩ := (tp.2 hr).2 h4
        rw [decide_eq_true h4, cond_true] at c2
        obtain ⟨er, erow⟩ := EN_det hπ en
        obtain ⟨Z3, c3, F3, C3⟩ := ev_mgoRead Z2 R C2 hπ ha8 hb12 q5
        rw [← er, ← e1, ← e2] at c3
        rw [← erow] at C3
        have T3 : TFr Z2 Z3 := ⟨fun i a1 a2 a3 a4 a5 => F3 i a2 a3 a4, fun j _ _ => by rw [F3 24 (by decide) (by decide) (by decide)]⟩
        have w104 : ∀ (A : Int32) (S' : Nat → Nat → Int32) l3, Gm kM_take 104 [some (.ref 24), some (.int (nI k)), some (.int (nI s0)), some (.int 0)] [.int r] (Z3, PF R, 32) (some (.int A)) (S', PF R, 32) → Gm kM_take 76 [some (.ref 24), some (.int (nI k)), some (.int (nI s0)), l3] [.int x, .int q, .int t, .ref 24] (Z2, PF R, 32) (some (.int A)) (S', PF R, 32) := fun A S' l3 g => by
          refine H_callV (c2) rfl rfl rfl rfl rfl rfl rfl rfl ?_
          refine H_ist_4_3 rfl rfl ?_
          refine G_iload_n rfl rfl ?_
          refine G_if_ge rfl (fun h => ?_) (fun h => ?_)
          · skip
            refine G_aload_n rfl rfl ?_
            refine G_aload_n rfl rfl ?_
            refine H_getI rfl rfl rfl rfl ?_
            refine G_aload_n rfl rfl ?_
            refine H_getI rfl rfl rfl rfl ?_
            refine G_aload_n rfl rfl ?_
            refine H_getI rfl rfl rfl rfl ?_
            rw [z11, z12, z13]
            refine H_callV (c3) rfl rfl rfl rfl rfl rfl rfl rfl ?_
            exact g
          · exact absurd (by decide) h
        by_cases hn : 10 < r
        · have f3 := F3 24 (by decide) (by decide) (by decide)
          obtain ⟨Z', g, C', t1', t2', t3', t4'⟩ := ih (k + 1) Z3 row1 tk st row' (by rw [f3]; exact z6) (by rw [F3 28 (by decide) (by decide) (by decide)]; exact z28) (by rw [f3]; exact z10) (by rw [f3]; exact z14) C3 gπ g40 (by omega) ⟨fun z => by rw [f3, z9, q7 z], fun z => by rw [f3, z9, (q8 z).1]; exact ⟨rfl, (q8 z).2⟩⟩ (ha hn) (some (.int (nI s0))) (some (.int r))
          refine ⟨Z', walk Z3 _ _ (fun l3 => w104 _ _ l3 ?_), C', (TFr_P F2).tr (T3.tr t1'), t2', t3', t4'⟩
          refine H_ist_4_3 rfl rfl ?_
          refine G_iload_n rfl rfl ?_
          refine G_bipush rfl ?_
          refine G_icmp_ge rfl (fun h => ?_) (fun h => ?_)
          · skip
            refine H_inc_4_1 rfl rfl ?_
            refine G_goto rfl ?_
            rw [← nI_succ]
            exact g
          · exact absurd (Int32.le_of_lt hn) h
        · exact stop hn Z3 T3 C3 (F3 31 (by decide) (by decide) (by decide)) (fun l3 g => w104 _ _ l3 (g _))
      · obtain ⟨er, erow⟩ := (tp.2 hr).1 h4
        rw [decide_eq_false h4, cond_false] at c2
        have hn : ¬ 10 < r := by rw [er]; decide
        refine stop hn Z2 ⟨fun _ _ _ _ _ _ => rfl, fun _ _ _ => rfl⟩ (by rw [erow]; exact C2) rfl (fun l3 g => ?_)
        rw [er] at g ⊢
        refine H_callV (c2) rfl rfl rfl rfl rfl rfl rfl rfl ?_
        refine H_ist_4_3 rfl rfl ?_
        refine G_iload_n rfl rfl ?_
        refine G_if_ge rfl (fun h => ?_) (fun h => ?_)
        · exact absurd h (by decide)
        refine G_iload_n rfl rfl ?_
        refine G_goto rfl ?_
        exact g _
end MTK
section MTK2
variable (S : Nat → Nat → Int32) (R : Nat → Nat) {row : Nat → Int32} {T : Nat}
set_option maxRecDepth 100000 in
theorem mm_take0 {m : Nat} (hn : S 24 6 = nI m) (hc : m ≤ 60) (h : gF (S 28) m m 0 0 ≠ -4) : ∃ S', EvM kM_take [.ref 24] (mk S R) (some (.int (-2))) (mk S' R) ∧ PFr S S' := by
  obtain ⟨S', p', ok', c1, F, k9, k10, kn, hg⟩ := ev_misText S R hn hc
  refine ⟨S', ?_, F⟩
  cases ok' with
  | true => exact absurd hg h
  | false =>
    refine EvM_mk [some (.ref 24), none, none, none] rfl rfl rfl rfl rfl (trivial) ?_
    refine G_aload_n rfl rfl ?_
    refine H_callV (c1) rfl rfl rfl rfl rfl rfl rfl rfl ?_
    refine G_if_ne rfl (fun h1 => ?_) (fun h1 => ?_)
    · exact absurd rfl h1
    refine G_bipush rfl ?_
    exact H_ret rfl rfl (rfl) (rfl)
/-- the model's history holds one state more -/
def HM (S S' : Nat → Nat → Int32) (n : Nat) : Prop := S' 24 2 = nI (recN n + 1) ∧ (∀ j, j < 102 → S' 26 (102 * recN n + j) = S 25 j) ∧ ∀ k, k < recN n → ∀ j, j < 102 → S' 26 (102 * k + j) = S 26 (102 * (if n < 4 then k else k + 1) + j)
set_option maxRecDepth 100000 in
theorem mm_take {m n tk : Nat} {st : Option Int32} {row' : Nat → Int32} (hm : S 24 6 = nI m) (hc : m ≤ 60) (hn : S 24 2 = nI n) (hn4 : n ≤ 4) (h : gF (S 28) m m 0 0 = -4) (hC : CR row T (S 25)) (hπ : ∃ π, Pot row π) (h40 : cnt (hs row) 96 ≤ 40) (hT : TK (S 28) m T (1 + cm (S 28) m) 0 row tk st row') : ∃ S', EvM kM_take [.ref 24] (mk S R) (some (.int (nI tk))) (mk S' R) ∧ (∀ i, i < 24 → S' i = S i) ∧ CR row' T (S' 25) ∧ HM S S' n ∧ S' 27 = S 27 ∧ S' 28 = S 28 ∧ S' 24 4 = S 24 4 ∧ S' 24 6 = 0 ∧ (st = none → S' 24 14 = 0) ∧ ∀ r, st = some r → S' 24 14 = 1 ∧ S' 31 0 = r ∧ S' 31 1 = nI tk ∧ S' 31 2 = nI (sOf (S 28) tk m).2 := by
  obtain ⟨S1, p', ok', c1, F1, k9, k10, kn, hg⟩ := ev_misText S R hm hc
  cases ok' with
  | false => exact absurd (hg.symm.trans h) (nI_m4 (by omega))
  | true =>
    obtain ⟨S2, c2, m1, m2, m3, m4, m5⟩ := ev_mrecords S1 R (n := n) ((F1.2 2 (by decide)).trans hn) hn4
    obtain ⟨Z, hZ⟩ : ∃ Z, Z = u2 S2 24 (upd (upd (S2 24) 9 0) 14 0) := ⟨_, rfl⟩
    have e24 : ∀ j, j ≠ 2 → j < 9 → Z 24 j = S 24 j := fun j j2 j9 => by
      rw [hZ, u2_same, upd_ne (by omega), upd_ne (by omega), m2 j j2]
      exact F1.2 j (Or.inl j9)
    have eo : ∀ i, i ≠ 24 → i ≠ 26 → Z i = S i := fun i i1 i2 => by
      rw [hZ, u2_ne i1, m1 i i1 i2]
      exact F1.1 i i1
    have m0 : 0 < m := Decidable.byContradiction fun z => by
      rw [show m = 0 by omega] at h
      exact absurd (show nI 0 = -4 from h) (by decide)
    obtain ⟨Z', g, C', t1, t2, t3, t4⟩ := mk_loop R hc (1 + cm (S 28) m) 0 Z row tk st row' (by rw [e24 6 (by decide) (by decide)]; exact hm) (eo 28 (by decide) (by decide)) (by rw [hZ, u2_same, upd_ne (by decide), upd_ne (by decide), m2 10 (by decide)]; exact k10) (by rw [hZ, u2_same, upd_same]) (by rw [eo 25 (by decide) (by decide)]; exact hC) hπ h40 (by omega) ⟨fun z => by omega, fun _ => by
      rw [sOf_z]
      exact ⟨by rw [hZ, u2_same, upd_ne (by decide), upd_same]; rfl, m0, rfl, h⟩⟩ hT none none
    refine ⟨Z', ?_, fun i hi => (t1.1 i (by omega) (by omega) (by omega) (by omega) (by omega)).trans (eo i (by omega) (by omega)), C', ⟨?_, fun j hj => ?_, fun k hk j hj => ?_⟩, ?_, ?_, ?_, t2, t3, t4⟩
    · skip
      refine EvM_mk [some (.ref 24), none, none, none] rfl rfl rfl rfl rfl (trivial) ?_
      refine G_aload_n rfl rfl ?_
      refine H_callV (c1) rfl rfl rfl rfl rfl rfl rfl rfl ?_
      refine G_if_ne rfl (fun h1 => ?_) (fun h1 => ?_)
      · skip
        refine G_aload_n rfl rfl ?_
        refine H_callU (c2) rfl rfl rfl rfl rfl rfl rfl rfl ?_
        refine G_aload_n rfl rfl ?_
        refine G_iconst rfl ?_
        refine H_putI rfl rfl rfl rfl ?_
        refine G_aload_n rfl rfl ?_
        refine G_iconst rfl ?_
        refine H_putI rfl rfl rfl rfl ?_
        refine G_iconst rfl ?_
        refine H_ist_4_1 rfl rfl ?_
        rw [u2_u2, u2_same, ← hZ]
        exact g
      · exact absurd (by decide) h1
    · rw [t1.2 2 (by decide) (by decide), hZ, u2_same, upd_ne (by decide), upd_ne (by decide)]
      exact m3
    · rw [t1.1 26 (by decide) (by decide) (by decide) (by decide) (by decide), hZ, u2_ne (by decide), m4 j hj, F1.1 25 (by decide)]
    · rw [t1.1 26 (by decide) (by decide) (by decide) (by decide) (by decide), hZ, u2_ne (by decide), m5 k hk j hj, F1.1 26 (by decide)]
    · rw [t1.1 27 (by decide) (by decide) (by decide) (by decide) (by decide)]; exact eo 27 (by decide) (by decide)
    · rw [t1.1 28 (by decide) (by decide) (by decide) (by decide) (by decide)]; exact eo 28 (by decide) (by decide)
    · rw [t1.2 4 (by decide) (by decide)]; exact e24 4 (by decide) (by decide)
end MTK2
