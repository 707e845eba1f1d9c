/-! LostZeros: enter, takePart, write, tell, numberOfGroups -/
def EN (row : Nat → Int32) (T a p : Nat) (x r : Int32) (row' : Nat → Int32) : Prop := ∃ rs, RS row a p x rs ∧ (¬ rs = 0 → r = rs ∧ row' = upd row 98 (row 98 + 1)) ∧ (rs = 0 → row' = upd (upd row (a * 12 + p) x) 97 (row 97 + 1) ∧ r = 10 + nI (tAll row' T))
def xFr (S S' : Nat → Nat → Int32) : Prop := ∀ i, i ≠ 2 → i ≠ 14 → i ≠ 15 → S' i = S i
def TP (row : Nat → Int32) (T : Nat) (t p x r : Int32) (row' : Nat → Int32) : Prop :=
  (rdOK row t p x = false → r = -1 ∧ row' = row) ∧ (rdOK row t p x = true → (¬ tAll row T < 40 → r = -3 ∧ row' = row) ∧ (tAll row T < 40 → ∃ a b, t = nI a ∧ p = nI b ∧ a < T ∧ b < 12 ∧ EN row T a b x r row'))
theorem tIs_ix {row : Nat → Int32} {T : Nat} {t : Int32} (hT : row 96 = nI T) (hT8 : T ≤ 8) (h : tIs row t = true) : ∃ a, a < T ∧ t = nI a := by
  simp only [tIs, Bool.and_eq_true, decide_eq_true_eq] at h
  rw [hT] at h
  exact lt_ix T (by omega) h.1 h.2
theorem tIs_nI {row : Nat → Int32} {T a : Nat} (hT : row 96 = nI T) (hT8 : T ≤ 8) (h : a < T) : tIs row (nI a) = true := by
  have h1 : ¬ nI a < 0 := nI_pos (by omega)
  have h2 : ¬ nI T ≤ nI a := ge_no h (by omega)
  simp [tIs, hT, h1, h2]
/-- the number that begins at a place -/
def nvx (f : Nat → Int32) (n s : Nat) : Int32 := bif decide (tx f n (nI s) = 45) then -(nvv f (n - (s + 1)) (s + 1) 0) else nvv f (n - s) s 0
def wl (row : Nat → Int32) (a : Nat) : Nat → List Int32
  | 0 => []
  | i + 1 => wl row a i ++ (if hs row (a * 12 + i) = true then (if (wl row a i).length = 0 then [] else [44]) ++ ([48 + nI a, 97 + nI i, 61] ++ digs (row (a * 12 + i))) else [])
theorem wl_len (row : Nat → Int32) (a : Nat) : ∀ i, (wl row a i).length ≤ 8 * i
  | 0 => Nat.le_refl 0
  | i + 1 => by
    have ih := wl_len row a i
    have hd := digs_len (row (a * 12 + i))
    rw [wl]
    split
    · split
      · simp only [List.length_append, List.length_cons, List.length_nil]
        omega
      · simp only [List.length_append, List.length_cons, List.length_nil]
        omega
    · simp only [List.length_append, List.length_nil]
      omega
section XP2
variable (S : Nat → Nat → Int32) (R : Nat → Nat)
set_option maxRecDepth 100000 in
theorem ev_enter {T a p : Nat} (hT : NT (S 2) T) (ha : a < T) (hp : p < 12) (hπ : ∃ π, Pot (S 2) π) (x : Int32) : ∃ S' r, EvM kX_enter [.ref 0, .int (nI a), .int (nI p), .int x] (mk S R) (some (.int r)) (mk S' R) ∧ xFr S S' ∧ EN (S 2) T a p x r (S' 2) := by
  have hq : TQ 1 2 := Or.inl ⟨rfl, rfl⟩
  have a8 : a < 8 := by have := hT.2.1; omega
  obtain ⟨S1, rs, ev1, fr1, hrs⟩ := ev_reasonAgainst S R hT a8 hp hπ x
  have s2 : S1 2 = S 2 := fr1 2 (by decide) (by decide)
  by_cases h0 : rs = 0
  · subst h0
    have e1 := ev_put hq S1 R (nI a) (nI p) x
    rw [s2, tPut_nI a8 hp] at e1
    have e2 := ev_tally hq (u2 S1 2 (upd (S 2) (a * 12 + p) x)) R (j := 97) (by decide) (by decide)
    rw [u2_same, u2_u2] at e2
    have h97 : upd (S 2) (a * 12 + p) x 97 = S 2 97 := upd_ne (by omega)
    rw [h97] at e2
    have h96 : upd (upd (S 2) (a * 12 + p) x) 97 (S 2 97 + 1) 96 = nI T := by rw [upd_ne (by decide), upd_ne (by omega)]; exact hT.1
    have e3 := ev_readings hq (u2 S1 2 (upd (upd (S 2) (a * 12 + p) x) 97 (S 2 97 + 1))) R (T := T) (by rw [u2_same]; exact h96) hT.2.1
    rw [u2_same] at e3
    refine ⟨u2 S1 2 (upd (upd (S 2) (a * 12 + p) x) 97 (S 2 97 + 1)), 10 + nI (tAll (upd (upd (S 2) (a * 12 + p) x) 97 (S 2 97 + 1)) T), ?_, fun i q1 q2 q3 => by rw [u2_ne q1]; exact fr1 i q2 q3, 0, hrs, fun q => absurd rfl q, fun _ => by rw [u2_same]; exact ⟨rfl, rfl⟩⟩
    refine EvM_mk [some (.ref 0), some (.int (nI a)), some (.int (nI p)), some (.int x), none] rfl rfl rfl rfl rfl (trivial) ?_
    refine G_aload_n rfl rfl ?_
    refine G_iload_n rfl rfl ?_
    refine G_iload_n rfl rfl ?_
    refine G_iload_n rfl rfl ?_
    refine H_callV (ev1) rfl rfl rfl rfl rfl rfl rfl rfl ?_
    refine H_ist_5_4 rfl rfl ?_
    refine G_iload rfl rfl ?_
    refine G_if_eq rfl (fun h => ?_) (fun h => ?_)
    · skip
      refine G_aload_n rfl rfl ?_
      refine H_getR rfl rfl rfl rfl rfl rfl ?_
      refine G_iload_n rfl rfl ?_
      refine G_iload_n rfl rfl ?_
      refine G_iload_n rfl rfl ?_
      refine H_callU (e1) rfl rfl rfl rfl rfl rfl rfl rfl ?_
      refine G_aload_n rfl rfl ?_
      refine H_getR rfl rfl rfl rfl rfl rfl ?_
      refine G_bipush rfl ?_
      refine H_callU (e2) rfl rfl rfl rfl rfl rfl rfl rfl ?_
      refine G_bipush rfl ?_
      refine G_aload_n rfl rfl ?_
      refine H_getR rfl rfl rfl rfl rfl rfl ?_
      refine H_callV (e3) rfl rfl rfl rfl rfl rfl rfl rfl ?_
      refine G_iadd rfl ?_
      exact H_ret rfl rfl (rfl) (rfl)
    · exact absurd rfl h
  · refine ⟨u2 S1 2 (upd (S1 2) 98 (S1 2 98 + 1)), rs, ?_, fun i q1 q2 q3 => by rw [u2_ne q1]; exact fr1 i q2 q3, rs, hrs, fun _ => ⟨rfl, by rw [u2_same, s2]⟩, fun q => absurd q h0⟩
    refine EvM_mk [some (.ref 0), some (.int (nI a)), some (.int (nI p)), some (.int x), none] rfl rfl rfl rfl rfl (trivial) ?_
    refine G_aload_n rfl rfl ?_
    refine G_iload_n rfl rfl ?_
    refine G_iload_n rfl rfl ?_
    refine G_iload_n rfl rfl ?_
    refine H_callV (ev1) rfl rfl rfl rfl rfl rfl rfl rfl ?_
    refine H_ist_5_4 rfl rfl ?_
    refine G_iload rfl rfl ?_
    refine G_if_eq rfl (fun h => ?_) (fun h => ?_)
    · exact absurd h h0
    refine G_aload_n rfl rfl ?_
    refine G_iload rfl rfl ?_
    refine H_callV (ev_refuse S1 R rs) rfl rfl rfl rfl rfl rfl rfl rfl ?_
    exact H_ret rfl rfl (rfl) (rfl)
set_option maxRecDepth 100000 in
theorem ev_takePart {T n s : Nat} (hT : NT (S 2) T) (hn : S 10 1 = nI n) (hc : n ≤ 60) (hs3 : s + 3 ≤ n) (hπ : ∃ π, Pot (S 2) π) : ∃ S' r, EvM kX_takePart [.ref 0, .int (nI s)] (mk S R) (some (.int r)) (mk S' R) ∧ xFr S S' ∧ TP (S 2) T (S 11 s - 48) (S 11 (s + 1) - 97) (nvx (S 11) n (s + 3)) r (S' 2) := by
  have hq : XQ 10 11 60 := Or.inl ⟨rfl, rfl, rfl⟩
  have c1 := ev_xat hq S R hn hc (nI s)
  rw [tx_in (by omega) (by omega)] at c1
  have c2 := ev_xat hq S R hn hc (nI (s + 1))
  rw [tx_in (by omega) (by omega), nI_succ] at c2
  have c3 := ev_numberAt S R hn hc (s := s + 3) (by omega)
  have e3 : nI s + 3 = nI (s + 3) := nI_add s 3
  have c4 := ev_errorOf S R hT.1 hT.2.1 (S 11 s - 48) (S 11 (s + 1) - 97) (nvx (S 11) n (s + 3))
  have front : ∀ (r : Int32) (S' : Nat → Nat → Int32) (err : Int32), EvM kX_errorOf [.ref 0, .int (S 11 s - 48), .int (S 11 (s + 1) - 97), .int (nvx (S 11) n (s + 3))] (mk S R) (some (.int err)) (mk S R) → Gm kX_takePart 48 [some (.ref 0), some (.int (nI s)), some (.int (S 11 s - 48)), some (.int (S 11 (s + 1) - 97)), some (.int (nvx (S 11) n (s + 3))), some (.int err)] [] (S, PF R, 24) (some (.int r)) (S', PF R, 24) → EvM kX_takePart [.ref 0, .int (nI s)] (mk S R) (some (.int r)) (mk S' R) := fun r S' err c4 g => by
    refine EvM_mk [some (.ref 0), some (.int (nI s)), none, none, none, none] rfl rfl rfl rfl rfl (trivial) ?_
    refine G_aload_n rfl rfl ?_
    refine H_getR rfl rfl rfl rfl rfl rfl ?_
    refine G_iload_n rfl rfl ?_
    refine H_callV (c1) rfl rfl rfl rfl rfl rfl rfl rfl ?_
    refine G_bipush rfl ?_
    refine G_isub rfl ?_
    refine H_ist_6_2 rfl rfl ?_
    refine G_aload_n rfl rfl ?_
    refine H_getR rfl rfl rfl rfl rfl rfl ?_
    refine G_iload_n rfl rfl ?_
    refine G_iconst rfl ?_
    refine G_iadd rfl ?_
    refine H_callV (c2) rfl rfl rfl rfl rfl rfl rfl rfl ?_
    refine G_bipush rfl ?_
    refine G_isub rfl ?_
    refine H_ist_6_3 rfl rfl ?_
    refine G_aload_n rfl rfl ?_
    refine H_getR rfl rfl rfl rfl rfl rfl ?_
    refine G_iload_n rfl rfl ?_
    refine G_iconst rfl ?_
    refine G_iadd rfl ?_
    rw [e3]
    refine H_callS (c3) rfl rfl rfl rfl rfl ?_
    refine H_ist_6_4 rfl rfl ?_
    refine G_aload_n rfl rfl ?_
    refine G_iload_n rfl rfl ?_
    refine G_iload_n rfl rfl ?_
    refine G_iload rfl rfl ?_
    refine H_callV (c4) rfl rfl rfl rfl rfl rfl rfl rfl ?_
    refine H_ist_6_5 rfl rfl ?_
    exact g
  cases hr : rdOK (S 2) (S 11 s - 48) (S 11 (s + 1) - 97) (nvx (S 11) n (s + 3)) with
  | false =>
    rw [hr, cond_false] at c4
    refine ⟨S, -1, front _ _ _ c4 ?_, fun _ _ _ _ => rfl, fun _ => ⟨rfl, rfl⟩, fun q => by rw [hr] at q; cases q⟩
    refine G_iload rfl rfl ?_
    refine G_if_eq rfl (fun h => ?_) (fun h => ?_)
    · exact absurd h (by decide)
    refine G_iload rfl rfl ?_
    refine G_goto rfl ?_
    exact H_ret rfl rfl (rfl) (rfl)
  | true =>
    rw [hr, cond_true] at c4
    by_cases h40 : tAll (S 2) T < 40
    · rw [decide_eq_true h40, cond_true] at c4
      have hr2 := hr
      simp only [rdOK, Bool.and_eq_true] at hr2
      obtain ⟨a, ha, ea⟩ := tIs_ix hT.1 hT.2.1 hr2.1
      obtain ⟨b, hb, eb⟩ := isPt_ix hr2.2.1
      obtain ⟨S', r, ev, fr, en⟩ := ev_enter S R hT ha hb hπ (nvx (S 11) n (s + 3))
      refine ⟨S', r, front _ _ _ c4 ?_, fr, fun q => (by rw [hr] at q; cases q), fun _ => ⟨fun q => absurd h40 q, fun _ => ⟨a, b, ea, eb, ha, hb, en⟩⟩⟩
      rw [ea, eb]
      refine G_iload rfl rfl ?_
      refine G_if_eq rfl (fun h => ?_) (fun h => ?_)
      · skip
        refine G_aload_n rfl rfl ?_
        refine G_iload_n rfl rfl ?_
        refine G_iload_n rfl rfl ?_
        refine G_iload rfl rfl ?_
        refine H_callV (ev) rfl rfl rfl rfl rfl rfl rfl rfl ?_
        exact H_ret rfl rfl (rfl) (rfl)
      · exact absurd rfl h
    · rw [decide_eq_false h40, cond_false] at c4
      refine ⟨S, -3, front _ _ _ c4 ?_, fun _ _ _ _ => rfl, fun q => (by rw [hr] at q; cases q), fun _ => ⟨fun _ => ⟨rfl, rfl⟩, fun q => absurd q h40⟩⟩
      refine G_iload rfl rfl ?_
      refine G_if_eq rfl (fun h => ?_) (fun h => ?_)
      · exact absurd h (by decide)
      refine G_iload rfl rfl ?_
      refine G_goto rfl ?_
      exact H_ret rfl rfl (rfl) (rfl)
set_option maxRecDepth 100000 in
theorem ev_stopAt (r part sign : Int32) : EvM kX_stopAt [.ref 0, .int r, .int part, .int sign] (mk S R) none (mk (u2 (u2 S 0 (upd (S 0) 6 1)) 12 (upd (upd (upd (S 12) 0 r) 1 part) 2 sign)) R) := by
  refine EvM_mk [some (.ref 0), some (.int r), some (.int part), some (.int sign)] rfl rfl rfl rfl rfl (trivial) ?_
  refine G_aload_n rfl rfl ?_
  refine G_iconst rfl ?_
  refine H_putI rfl rfl rfl rfl ?_
  refine G_aload_n rfl rfl ?_
  refine H_getR rfl rfl rfl rfl rfl rfl ?_
  refine G_iconst rfl ?_
  refine G_iload_n rfl rfl ?_
  refine H_iast rfl ((show (0 : Int32) = nI 0 from rfl)) (rfl) ((by decide)) (rfl) ?_
  refine G_aload_n rfl rfl ?_
  refine H_getR rfl rfl rfl rfl rfl rfl ?_
  refine G_iconst rfl ?_
  refine G_iload_n rfl rfl ?_
  refine H_iast rfl ((show (1 : Int32) = nI 1 from rfl)) (rfl) ((by decide)) (rfl) ?_
  refine G_aload_n rfl rfl ?_
  refine H_getR rfl rfl rfl rfl rfl rfl ?_
  refine G_iconst rfl ?_
  refine G_iload_n rfl rfl ?_
  refine H_iast rfl ((show (2 : Int32) = nI 2 from rfl)) (rfl) ((by decide)) (rfl) ?_
  exact H_retv rfl rfl ((by rw [u2_ne (show 12 ≠ 0 by decide), u2_same, u2_u2, u2_same, u2_u2]))
set_option maxRecDepth 100000 in
theorem ev_write {a : Nat} (ha : a < 8) : EvM kX_write [.ref 0, .int (nI a)] (mk S R) none (mk (xApp (u2 S 22 (upd (S 22) 1 0)) 22 23 0 (wl (S 2) a 12)) R) := by
  have hq : TQ 1 2 := Or.inl ⟨rfl, rfl⟩
  have hx : XQ 22 23 96 := Or.inr ⟨rfl, rfl, rfl⟩
  generalize hS0 : u2 S 22 (upd (S 22) 1 0) = S0
  have s02 : S0 2 = S 2 := by rw [← hS0, u2_ne (by decide)]
  have s022 : S0 22 1 = nI 0 := by rw [← hS0, u2_same, upd_same]; rfl
  have ap2 : ∀ l, xApp S0 22 23 0 l 2 = S 2 := fun l => by rw [← s02]; simp [xApp, u2]
  have apl : ∀ l, xApp S0 22 23 0 l 22 1 = nI l.length := fun l => by rw [xApp_q (by decide), Nat.zero_add]
  have apa : ∀ l1 l2, xApp (xApp S0 22 23 0 l1) 22 23 l1.length l2 = xApp S0 22 23 0 (l1 ++ l2) := fun l1 l2 => by
    have := xApp_app (S := S0) (q := 22) (w := 23) (n := 0) (l1 := l1) (l2 := l2) (by decide)
    rwa [Nat.zero_add] at this
  have nil : xApp S0 22 23 0 [] = S0 := by
    funext i
    by_cases h1 : i = 22
    · subst h1
      funext j
      by_cases hj : j = 1
      · subst hj
        rw [xApp_q (by decide), s022]; rfl
      · simp [xApp, u2, upd, hj]
    · by_cases h2 : i = 23
      · subst h2
        simp [xApp, u2, apd]
      · simp [xApp, u2, h1, h2]
  refine EvM_mk [some (.ref 0), some (.int (nI a)), none] rfl rfl rfl rfl rfl (trivial) ?_
  refine G_aload_n rfl rfl ?_
  refine H_getR rfl rfl rfl rfl rfl rfl ?_
  refine H_callU (ev_xempty hx S R) rfl rfl rfl rfl rfl rfl rfl rfl ?_
  rw [hS0]
  refine G_iconst rfl ?_
  refine H_ist_3_2 rfl rfl ?_
  have goal : Gm kX_write 9 [some (.ref 0), some (.int (nI a)), some (.int (nI 0))] [] (xApp S0 22 23 0 (wl (S 2) a 0), PF R, 24) none (xApp S0 22 23 0 (wl (S 2) a 12), PF R, 24) := by
    refine down 12 (fun i => Gm kX_write 9 [some (.ref 0), some (.int (nI a)), some (.int (nI i))] [] (xApp S0 22 23 0 (wl (S 2) a i), PF R, 24) none (xApp S0 22 23 0 (wl (S 2) a 12), PF R, 24)) ?_ (fun i hi ih => ?_)
    · skip
      refine G_iload_n rfl rfl ?_
      refine G_bipush rfl ?_
      refine G_icmp_ge rfl (fun h => ?_) (fun h => ?_)
      · skip
        exact H_retv rfl rfl (rfl)
      · exact absurd (by decide) h
    · have hlen := wl_len (S 2) a i
      rw [wl] at ih
      generalize wl (S 2) a i = W at *
      have hh := ev_has hq (xApp S0 22 23 0 W) R (nI a) (nI i)
      rw [ap2, tHas_nI ha hi] at hh
      refine G_iload_n rfl rfl ?_
      refine G_bipush rfl ?_
      refine G_icmp_ge rfl (fun h => ?_) (fun h => ?_)
      · exact absurd h (ge_no hi (by decide))
      refine G_aload_n rfl rfl ?_
      refine H_getR rfl rfl rfl rfl rfl rfl ?_
      refine G_iload_n rfl rfl ?_
      refine G_iload_n rfl rfl ?_
      refine H_callV (hh) rfl rfl rfl rfl rfl rfl rfl rfl ?_
      refine G_if_eq rfl (fun h1 => ?_) (fun h1 => ?_)
      · skip
        refine H_inc_3_2 rfl rfl ?_
        refine G_goto rfl ?_
        rw [if_neg (by rw [b2i_0.mp h1]; decide), List.append_nil, nI_succ] at ih
        exact ih
      · have h1 := b2i_n0.mp h1
        rw [if_pos h1, nI_succ] at ih
        have tail : ∀ V : List Int32, V.length ≤ 8 * i + 1 → V ++ ([48 + nI a, 97 + nI i, 61] ++ digs (S 2 (a * 12 + i))) = W ++ ((if W.length = 0 then [] else [44]) ++ ([48 + nI a, 97 + nI i, 61] ++ digs (S 2 (a * 12 + i)))) → Gm kX_write 46 [some (.ref 0), some (.int (nI a)), some (.int (nI i))] [] (xApp S0 22 23 0 V, PF R, 24) none (xApp S0 22 23 0 (wl (S 2) a 12), PF R, 24) := fun V hV eV => by
          have a1 := ev_xadd hx (xApp S0 22 23 0 V) R (n := V.length) (apl V) (by omega) (48 + nI a)
          rw [apa] at a1
          have a2 := ev_xadd hx (xApp S0 22 23 0 (V ++ [48 + nI a])) R (n := (V ++ [48 + nI a]).length) (apl _) (by simp; omega) (97 + nI i)
          rw [apa] at a2
          have a3 := ev_xadd hx (xApp S0 22 23 0 (V ++ [48 + nI a] ++ [97 + nI i])) R (n := (V ++ [48 + nI a] ++ [97 + nI i]).length) (apl _) (by simp; omega) 61
          rw [apa] at a3
          have hat := ev_at hq (xApp S0 22 23 0 (V ++ [48 + nI a] ++ [97 + nI i] ++ [61])) R (nI a) (nI i)
          rw [ap2, tAt_nI ha hi] at hat
          have a4 := ev_addNumber (xApp S0 22 23 0 (V ++ [48 + nI a] ++ [97 + nI i] ++ [61])) R (n := (V ++ [48 + nI a] ++ [97 + nI i] ++ [61]).length) (apl _) (by simp; omega) (S 2 (a * 12 + i))
          rw [apa] at a4
          refine G_aload_n rfl rfl ?_
          refine H_getR rfl rfl rfl rfl rfl rfl ?_
          refine G_bipush rfl ?_
          refine G_iload_n rfl rfl ?_
          refine G_iadd rfl ?_
          refine H_callU (a1) rfl rfl rfl rfl rfl rfl rfl rfl ?_
          refine G_aload_n rfl rfl ?_
          refine H_getR rfl rfl rfl rfl rfl rfl ?_
          refine G_bipush rfl ?_
          refine G_iload_n rfl rfl ?_
          refine G_iadd rfl ?_
          refine H_callU (a2) rfl rfl rfl rfl rfl rfl rfl rfl ?_
          refine G_aload_n rfl rfl ?_
          refine H_getR rfl rfl rfl rfl rfl rfl ?_
          refine G_bipush rfl ?_
          refine H_callU (a3) rfl rfl rfl rfl rfl rfl rfl rfl ?_
          refine G_aload_n rfl rfl ?_
          refine H_getR rfl rfl rfl rfl rfl rfl ?_
          refine G_aload_n rfl rfl ?_
          refine H_getR rfl rfl rfl rfl rfl rfl ?_
          refine G_iload_n rfl rfl ?_
          refine G_iload_n rfl rfl ?_
          refine H_callV (hat) rfl rfl rfl rfl rfl rfl rfl rfl ?_
          refine H_callU (a4) rfl rfl rfl rfl rfl rfl rfl rfl ?_
          refine H_inc_3_2 rfl rfl ?_
          refine G_goto rfl ?_
          have e : V ++ [48 + nI a] ++ [97 + nI i] ++ [61] ++ digs (S 2 (a * 12 + i)) = W ++ ((if W.length = 0 then [] else [44]) ++ ([48 + nI a, 97 + nI i, 61] ++ digs (S 2 (a * 12 + i)))) := by
            rw [← eV]; simp
          rw [e]
          exact ih
        have hl := ev_xlen hx (xApp S0 22 23 0 W) R
        rw [apl] at hl
        refine G_aload_n rfl rfl ?_
        refine H_getR rfl rfl rfl rfl rfl rfl ?_
        refine H_callV (hl) rfl rfl rfl rfl rfl rfl rfl rfl ?_
        refine G_if_le rfl (fun h2 => ?_) (fun h2 => ?_)
        · have h3 : W.length = 0 := Decidable.byContradiction fun q => absurd h2 (nI_nle (by omega) (by omega))
          exact tail W (by omega) (by rw [if_pos h3, List.nil_append])
        · have h3 : ¬ W.length = 0 := fun q => h2 (by rw [q]; decide)
          have a0 := ev_xadd hx (xApp S0 22 23 0 W) R (n := W.length) (apl W) (by omega) 44
          rw [apa] at a0
          refine G_aload_n rfl rfl ?_
          refine H_getR rfl rfl rfl rfl rfl rfl ?_
          refine G_bipush rfl ?_
          refine H_callU (a0) rfl rfl rfl rfl rfl rfl rfl rfl ?_
          exact tail (W ++ [44]) (by simp; omega) (by rw [if_neg h3]; simp)
  rw [show wl (S 2) a 0 = [] from rfl, nil] at goal
  exact goal
set_option maxRecDepth 100000 in
theorem ev_tell {a b : Nat} (ha : a < 20) (hb : b < 20) : EvM kX_tell [.ref 0, .int (nI a), .int (nI b)] (mk S R) (some (.int (if S 14 a = S 14 b then 100000 + (S 15 b - S 15 a) else -4))) (mk S R) := by
  refine EvM_mk [some (.ref 0), some (.int (nI a)), some (.int (nI b))] rfl rfl rfl rfl rfl (trivial) ?_
  refine G_aload_n rfl rfl ?_
  refine H_getR rfl rfl rfl rfl rfl rfl ?_
  refine G_iload_n rfl rfl ?_
  refine G_iload_n rfl rfl ?_
  refine H_callV (ev_together S R ha hb) rfl rfl rfl rfl rfl rfl rfl rfl ?_
  refine G_if_eq rfl (fun h => ?_) (fun h => ?_)
  · skip
    refine G_bipush rfl ?_
    exact H_ret rfl rfl ((by rw [if_neg (of_decide_eq_false (b2i_0.mp h))])) (rfl)
  refine G_ldc rfl ?_
  refine G_aload_n rfl rfl ?_
  refine H_getR rfl rfl rfl rfl rfl rfl ?_
  refine G_iload_n rfl rfl ?_
  refine G_iload_n rfl rfl ?_
  refine H_callV (ev_way S R ha hb) rfl rfl rfl rfl rfl rfl rfl rfl ?_
  refine G_iadd rfl ?_
  refine G_goto rfl ?_
  exact H_ret rfl rfl ((by rw [if_pos (of_decide_eq_true (b2i_n0.mp h))])) (rfl)
def ngr (f d row : Nat → Int32) (T k : Nat) : Int32 := match k with
  | 2 => nI (cnt (gLow f) 12)
  | 3 => nI (cnt (gLowR f row T) 12)
  | 4 => if 0 < cnt (gLowR f row T) 12 then nI (cnt (gLowR f row T) 12 - 1) else 0
  | _ => gMost f d 12
set_option maxRecDepth 100000 in
theorem ev_numberOfGroups {T k : Nat} (hT : NT (S 2) T) (hk : k = 2 ∨ k = 3 ∨ k = 4 ∨ k = 5) : ∃ f d, EvM kX_numberOfGroups [.ref 0, .int (nI k)] (mk S R) (some (.int (ngr f d (S 2) T k))) (mk (u2 (u2 S 14 f) 15 d) R) ∧ JS (S 2) f d := by
  obtain ⟨f, d, evj, hJ⟩ := ev_join S R hT
  have s14 : u2 (u2 S 14 f) 15 d 14 = f := by rw [u2_ne (by decide), u2_same]
  have s15 : u2 (u2 S 14 f) 15 d 15 = d := u2_same
  have s2 : u2 (u2 S 14 f) 15 d 2 = S 2 := by rw [u2_ne (by decide), u2_ne (by decide)]
  have e1 := ev_clusters (u2 (u2 S 14 f) 15 d) R
  have e2 := ev_clustersRead (u2 (u2 S 14 f) 15 d) R (T := T) (by rw [s2]; exact hT.1) hT.2.1
  have e3 := ev_greatestWay (u2 (u2 S 14 f) 15 d) R
  rw [s14] at e1
  rw [s14, s2] at e2
  rw [s14, s15] at e3
  have hc := cnt_le (gLowR f (S 2) T) 12
  refine ⟨f, d, ?_, hJ⟩
  have ne : ∀ {j : Nat}, j ≤ 5 → nI k = nI j → k = j := fun hj h => (nI_eq (by omega) (by omega)).mp h
  refine EvM_mk [some (.ref 0), some (.int (nI k)), none] rfl rfl rfl rfl rfl (trivial) ?_
  refine G_aload_n rfl rfl ?_
  refine H_getR rfl rfl rfl rfl rfl rfl ?_
  refine G_aload_n rfl rfl ?_
  refine H_getR rfl rfl rfl rfl rfl rfl ?_
  refine H_callU (evj) rfl rfl rfl rfl rfl rfl rfl rfl ?_
  refine G_iload_n rfl rfl ?_
  refine G_switch rfl rfl rfl (And.intro (fun h => ?_) (And.intro (fun h => ?_) (And.intro (fun h => ?_) trivial))) (fun h => ?_)
  · obtain rfl := ne (by decide) h
    refine G_aload_n rfl rfl ?_
    refine H_getR rfl rfl rfl rfl rfl rfl ?_
    refine H_callV (e1) rfl rfl rfl rfl rfl rfl rfl rfl ?_
    exact H_ret rfl rfl (rfl) (rfl)
  · obtain rfl := ne (by decide) h
    refine G_aload_n rfl rfl ?_
    refine H_getR rfl rfl rfl rfl rfl rfl ?_
    refine G_aload_n rfl rfl ?_
    refine H_getR rfl rfl rfl rfl rfl rfl ?_
    refine H_callV (e2) rfl rfl rfl rfl rfl rfl rfl rfl ?_
    exact H_ret rfl rfl (rfl) (rfl)
  · obtain rfl := ne (by decide) h
    refine G_aload_n rfl rfl ?_
    refine H_getR rfl rfl rfl rfl rfl rfl ?_
    refine G_aload_n rfl rfl ?_
    refine H_getR rfl rfl rfl rfl rfl rfl ?_
    refine H_callV (e2) rfl rfl rfl rfl rfl rfl rfl rfl ?_
    refine H_ist_3_2 rfl rfl ?_
    refine G_iload_n rfl rfl ?_
    refine G_if_le rfl (fun h2 => ?_) (fun h2 => ?_)
    · have h3 : ¬ 0 < cnt (gLowR f (S 2) T) 12 := fun q => absurd h2 (nI_nle q (by omega))
      refine G_iconst rfl ?_
      exact H_ret rfl rfl ((by rw [ngr, if_neg h3])) (rfl)
    · have h3 : 0 < cnt (gLowR f (S 2) T) 12 := Decidable.byContradiction fun q => h2 (by rw [show cnt (gLowR f (S 2) T) 12 = 0 by omega]; decide)
      refine G_iload_n rfl rfl ?_
      refine G_iconst rfl ?_
      refine G_isub rfl ?_
      refine G_goto rfl ?_
      exact H_ret rfl rfl ((by rw [ngr, if_pos h3]; exact pk_sub (a := cnt (gLowR f (S 2) T) 12) (b := 1) h3)) (rfl)
  · have h5 : k = 5 := by
      have e := nI_toInt (show k < 2 ^ 31 by omega)
      have h : (nI k).toInt < 2 ∨ 4 < (nI k).toInt := h
      omega
    subst h5
    refine G_aload_n rfl rfl ?_
    refine H_getR rfl rfl rfl rfl rfl rfl ?_
    refine H_callV (e3) rfl rfl rfl rfl rfl rfl rfl rfl ?_
    exact H_ret rfl rfl (rfl) (rfl)
end XP2
