/-! the document's own reckoning: deeds, part 3: lose, read, shift -/
section MD3
variable (S : Nat → Nat → Int32) (R : Nat → Nat) {row : Nat → Int32} {T : Nat} {π : Nat → Int32}
set_option maxRecDepth 100000 in
theorem mm_lose0 (hC : CR row T (S 25)) {t p : Int32} (h : (tIs row t && isPt p) = false) : EvM kM_lose [.ref 24, .int t, .int p] (mk S R) (some (.int (-1))) (mk S R) := by
  have c1 := ev_misTape S R hC.cs t
  have c2 := ev_misPoint S R p
  refine EvM_mk [some (.ref 24), some (.int t), some (.int p)] rfl rfl rfl rfl rfl (trivial) ?_
  refine G_aload_n rfl rfl ?_
  refine G_iload_n rfl rfl ?_
  refine H_callV (c1) rfl rfl rfl rfl rfl rfl rfl rfl ?_
  refine G_if_eq rfl (fun h1 => ?_) (fun h1 => ?_)
  · skip
    refine G_iconst rfl ?_
    exact H_ret rfl rfl (rfl) (rfl)
  rw [b2i_n0.mp h1, Bool.true_and] at h
  rw [h] at c2
  refine G_iload_n rfl rfl ?_
  refine H_callS (c2) rfl rfl rfl rfl rfl ?_
  refine G_if_ne rfl (fun h2 => ?_) (fun h2 => ?_)
  · exact absurd rfl h2
  refine G_iconst rfl ?_
  exact H_ret rfl rfl (rfl) (rfl)
set_option maxRecDepth 100000 in
theorem mm_lose (hC : CR row T (S 25)) {n a p : Nat} (hn : S 24 2 = nI n) (hn4 : n ≤ 4) (ha : a < T) (hp : p < 12) : ∃ S1, EvM kM_lose [.ref 24, .int (nI a), .int (nI p)] (mk S R) (some (.int (if hs row (a * 12 + p) = true then 10 + nI (tAll (upd row (a * 12 + p) NONE) T) else 3))) (mk S1 R) ∧ MD S S1 n (if hs row (a * 12 + p) = true then upd row (a * 12 + p) NONE else upd row 98 (row 98 + 1)) T := by
  have hT8 := hC.1.2.1
  have c1 := ev_misTape S R hC.cs (nI a)
  rw [tIs_nI hC.1.1 hT8 ha] at c1
  have c2 := ev_misPoint S R (nI p)
  rw [isPt_nI hp] at c2
  obtain ⟨S0, c3, mr⟩ := ev_mrecords S R hn hn4
  have hC0 : CR row T (S0 25) := by rw [mr.1 25 (by decide) (by decide)]; exact hC
  have c4 := ev_mhas S0 R hC0.cs (t := a) (p := p) (by omega) hp
  cases hh : hs row (a * 12 + p) with
  | false =>
    rw [hh] at c4
    have c5 := ev_mrefuses S0 R 3
    rw [if_neg (by decide), if_neg (by decide)]
    refine ⟨u2 S0 25 (upd (S0 25) 3 (S0 25 3 + 1)), ?_, S0, mr, fun i h1 _ _ => u2_ne h1, by rw [u2_same]; exact CR_ref S0 hC0⟩
    refine EvM_mk [some (.ref 24), some (.int (nI a)), some (.int (nI p))] rfl rfl rfl rfl rfl (trivial) ?_
    refine G_aload_n rfl rfl ?_
    refine G_iload_n rfl rfl ?_
    refine H_callV (c1) rfl rfl rfl rfl rfl rfl rfl rfl ?_
    refine G_if_eq rfl (fun h1 => ?_) (fun h1 => ?_)
    · exact absurd h1 (by decide)
    refine G_iload_n rfl rfl ?_
    refine H_callS (c2) rfl rfl rfl rfl rfl ?_
    refine G_if_ne rfl (fun h2 => ?_) (fun h2 => ?_)
    · skip
      refine G_aload_n rfl rfl ?_
      refine H_callU (c3) rfl rfl rfl rfl rfl rfl rfl rfl ?_
      refine G_aload_n rfl rfl ?_
      refine G_iload_n rfl rfl ?_
      refine G_iload_n rfl rfl ?_
      refine H_callV (c4) rfl rfl rfl rfl rfl rfl rfl rfl ?_
      refine G_if_ne rfl (fun h3 => ?_) (fun h3 => ?_)
      · exact absurd rfl h3
      refine G_aload_n rfl rfl ?_
      refine G_iconst rfl ?_
      refine H_callV (c5) rfl rfl rfl rfl rfl rfl rfl rfl ?_
      exact H_ret rfl rfl (rfl) (rfl)
    · exact absurd h2 (by decide)
  | true =>
    rw [hh] at c4
    obtain ⟨s, c5, hs'⟩ := ev_mloses S0 R hC0 (t := a) (p := p) (by omega) hp
    rw [if_pos rfl, if_pos rfl]
    refine ⟨u2 S0 25 s, ?_, S0, mr, fun i h1 _ _ => u2_ne h1, by rw [u2_same]; exact hs'⟩
    have es : u2 S0 25 s 25 1 = nI (tAll (upd row (a * 12 + p) NONE) T) := by rw [u2_same, hs'.2.2.2.1, tAll_cnt hs'.1]
    refine EvM_mk [some (.ref 24), some (.int (nI a)), some (.int (nI p))] rfl rfl rfl rfl rfl (trivial) ?_
    refine G_aload_n rfl rfl ?_
    refine G_iload_n rfl rfl ?_
    refine H_callV (c1) rfl rfl rfl rfl rfl rfl rfl rfl ?_
    refine G_if_eq rfl (fun h1 => ?_) (fun h1 => ?_)
    · exact absurd h1 (by decide)
    refine G_iload_n rfl rfl ?_
    refine H_callS (c2) rfl rfl rfl rfl rfl ?_
    refine G_if_ne rfl (fun h2 => ?_) (fun h2 => ?_)
    · skip
      refine G_aload_n rfl rfl ?_
      refine H_callU (c3) rfl rfl rfl rfl rfl rfl rfl rfl ?_
      refine G_aload_n rfl rfl ?_
      refine G_iload_n rfl rfl ?_
      refine G_iload_n rfl rfl ?_
      refine H_callV (c4) rfl rfl rfl rfl rfl rfl rfl rfl ?_
      refine G_if_ne rfl (fun h3 => ?_) (fun h3 => ?_)
      · skip
        refine G_aload_n rfl rfl ?_
        refine G_iload_n rfl rfl ?_
        refine G_iload_n rfl rfl ?_
        refine H_callU (c5) rfl rfl rfl rfl rfl rfl rfl rfl ?_
        refine G_bipush rfl ?_
        refine G_aload_n rfl rfl ?_
        refine H_getR rfl rfl rfl rfl rfl rfl ?_
        refine G_iconst rfl ?_
        refine H_iald rfl ((show (1 : Int32) = nI 1 from rfl)) (rfl) ((by decide)) (rfl) ?_
        refine G_iadd rfl ?_
        exact H_ret rfl rfl ((by rw [es])) (rfl)
      · exact absurd h3 (by decide)
    · exact absurd h2 (by decide)
set_option maxRecDepth 100000 in
theorem ev_merror (hC : CR row T (S 25)) (h40 : cnt (hs row) 96 ≤ 40) (t p x : Int32) : EvM kM_errorOfRead [.ref 24, .int t, .int p, .int x] (mk S R) (some (.int (bif rdOK row t p x then (bif decide (tAll row T < 40) then 0 else -3) else -1))) (mk S R) := by
  have c1 := ev_misTape S R hC.cs t
  have c2 := ev_misPoint S R p
  have c3 := ev_misNumber S R x
  rw [tAll_cnt hC.1]
  cases hb : rdOK row t p x with
  | false =>
    unfold rdOK at hb
    refine EvM_mk [some (.ref 24), some (.int t), some (.int p), some (.int x)] rfl rfl rfl rfl rfl (trivial) ?_
    refine G_aload_n rfl rfl ?_
    refine G_iload_n rfl rfl ?_
    refine H_callV (c1) rfl rfl rfl rfl rfl rfl rfl rfl ?_
    refine G_if_eq rfl (fun h1 => ?_) (fun h1 => ?_)
    · skip
      refine G_iconst rfl ?_
      exact H_ret rfl rfl (rfl) (rfl)
    refine G_iload_n rfl rfl ?_
    refine H_callS (c2) rfl rfl rfl rfl rfl ?_
    refine G_if_eq rfl (fun h2 => ?_) (fun h2 => ?_)
    · skip
      refine G_iconst rfl ?_
      exact H_ret rfl rfl (rfl) (rfl)
    refine G_iload_n rfl rfl ?_
    refine H_callS (c3) rfl rfl rfl rfl rfl ?_
    refine G_if_ne rfl (fun h3 => ?_) (fun h3 => ?_)
    · rw [b2i_n0.mp h1, b2i_n0.mp h2, b2i_n0.mp h3] at hb; cases hb
    refine G_iconst rfl ?_
    exact H_ret rfl rfl (rfl) (rfl)
  | true =>
    unfold rdOK at hb
    rw [Bool.and_eq_true, Bool.and_eq_true] at hb
    obtain ⟨b1, b2, b3⟩ := hb
    rw [b1] at c1
    rw [b2] at c2
    rw [b3] at c3
    rw [cond_true]
    refine EvM_mk [some (.ref 24), some (.int t), some (.int p), some (.int x)] rfl rfl rfl rfl rfl (trivial) ?_
    refine G_aload_n rfl rfl ?_
    refine G_iload_n rfl rfl ?_
    refine H_callV (c1) rfl rfl rfl rfl rfl rfl rfl rfl ?_
    refine G_if_eq rfl (fun h1 => ?_) (fun h1 => ?_)
    · exact absurd h1 (by decide)
    refine G_iload_n rfl rfl ?_
    refine H_callS (c2) rfl rfl rfl rfl rfl ?_
    refine G_if_eq rfl (fun h2 => ?_) (fun h2 => ?_)
    · exact absurd h2 (by decide)
    refine G_iload_n rfl rfl ?_
    refine H_callS (c3) rfl rfl rfl rfl rfl ?_
    refine G_if_ne rfl (fun h3 => ?_) (fun h3 => ?_)
    · skip
      refine G_aload_n rfl rfl ?_
      refine H_getR rfl rfl rfl rfl rfl rfl ?_
      refine G_iconst rfl ?_
      refine H_iald rfl ((show (1 : Int32) = nI 1 from rfl)) (rfl) ((by decide)) (rfl) ?_
      rw [hC.2.2.2.1]
      refine G_bipush rfl ?_
      refine G_icmp_ne rfl (fun h4 => ?_) (fun h4 => ?_)
      · have : cnt (hs row) 96 ≠ 40 := fun e => h4 (by rw [e]; rfl)
        refine G_iconst rfl ?_
        exact H_ret rfl rfl ((by rw [decide_eq_true (show cnt (hs row) 96 < 40 by omega)]; rfl)) (rfl)
      · have : cnt (hs row) 96 = 40 := (nI_eq (show cnt (hs row) 96 < 2 ^ 31 by omega) (show 40 < 2 ^ 31 by decide)).mp (Decidable.of_not_not h4)
        refine G_bipush rfl ?_
        refine G_goto rfl ?_
        exact H_ret rfl rfl ((by rw [this]; rfl)) (rfl)
    · exact absurd h3 (by decide)
set_option maxRecDepth 100000 in
theorem ev_mgoRead (hC : CR row T (S 25)) (hπ : Pot row π) {a p : Nat} (ha : a < T) (hp : p < 12) {x : Int32} (hx : isNb x = true) : ∃ S1, EvM kM_goRead [.ref 24, .int (nI a), .int (nI p), .int x] (mk S R) (some (.int (enA row π T a p x))) (mk S1 R) ∧ (∀ i, i ≠ 25 → i ≠ 29 → i ≠ 30 → S1 i = S i) ∧ CR (enR row π a p x) T (S1 25) := by
  have hT8 := hC.1.2.1
  obtain ⟨S0, c1, f0⟩ := ev_mreason S R hC.cs hπ (t := a) (p := p) (by omega) hp x
  have hC0 : CR row T (S0 25) := by rw [f0 25 (by decide) (by decide)]; exact hC
  unfold enA enR
  by_cases z : rsV row π a p x = 0
  · rw [if_pos z, if_pos z]
    have hf : upd row (a * 12 + p) x 97 = row 97 := upd_ne (by omega)
    obtain ⟨s, c2, hC1⟩ := ev_mlays S0 R hC0 ha hp hx
    have hC2 : CR (upd (upd row (a * 12 + p) x) 97 (row 97 + 1)) T (upd s 2 (s 2 + 1)) := by
      have := CR_tally (k := 0) hC1 (by decide)
      rw [show 97 + 0 = 97 from rfl, hf] at this
      exact this
    refine ⟨u2 S0 25 (upd s 2 (s 2 + 1)), ?_, fun i h1 h2 h3 => by rw [u2_ne h1]; exact f0 i h2 h3, by rw [u2_same]; exact hC2⟩
    have e1 : upd s 2 (s 2 + 1) 1 = nI (tAll (upd (upd row (a * 12 + p) x) 97 (row 97 + 1)) T) := by rw [hC2.2.2.2.1, tAll_cnt hC2.1]
    rw [z] at c1
    refine EvM_mk [some (.ref 24), some (.int (nI a)), some (.int (nI p)), some (.int x), none] rfl rfl rfl rfl rfl (trivial) ?_
    refine G_aload_n rfl rfl ?_
    refine G_iload_n rfl rfl ?_
    refine G_iload_n rfl rfl ?_
    refine G_iload_n rfl rfl ?_
    refine H_callV (c1) rfl rfl rfl rfl rfl rfl rfl rfl ?_
    refine H_ist_5_4 rfl rfl ?_
    refine G_iload rfl rfl ?_
    refine G_if_le rfl (fun h => ?_) (fun h => ?_)
    · skip
      refine G_aload_n rfl rfl ?_
      refine G_iload_n rfl rfl ?_
      refine G_iload_n rfl rfl ?_
      refine G_iload_n rfl rfl ?_
      refine H_callU (c2) rfl rfl rfl rfl rfl rfl rfl rfl ?_
      refine G_aload_n rfl rfl ?_
      refine H_getR rfl rfl rfl rfl rfl rfl ?_
      refine G_iconst rfl ?_
      refine G_dup2 rfl rfl rfl ?_
      refine H_iald rfl ((show (2 : Int32) = nI 2 from rfl)) (rfl) ((by decide)) (rfl) ?_
      refine G_iconst rfl ?_
      refine G_iadd rfl ?_
      refine H_iast rfl ((show (2 : Int32) = nI 2 from rfl)) (rfl) ((by decide)) (rfl) ?_
      rw [u2_same, u2_u2]
      refine G_bipush rfl ?_
      refine G_aload_n rfl rfl ?_
      refine H_getR rfl rfl rfl rfl rfl rfl ?_
      refine G_iconst rfl ?_
      refine H_iald rfl ((show (1 : Int32) = nI 1 from rfl)) (rfl) ((by decide)) (rfl) ?_
      refine G_iadd rfl ?_
      exact H_ret rfl rfl ((by rw [u2_same, e1])) (rfl)
    · exact absurd (Int32.le_refl _) h
  · rw [if_neg z, if_neg z]
    have c2 := ev_mrefuses S0 R (rsV row π a p x)
    refine ⟨u2 S0 25 (upd (S0 25) 3 (S0 25 3 + 1)), ?_, fun i h1 h2 h3 => by rw [u2_ne h1]; exact f0 i h2 h3, by rw [u2_same]; exact CR_ref S0 hC0⟩
    have hc := rsV_cases (row := row) (π := π) (a := a) (p := p) (x := x)
    generalize rsV row π a p x = v at *
    refine EvM_mk [some (.ref 24), some (.int (nI a)), some (.int (nI p)), some (.int x), none] rfl rfl rfl rfl rfl (trivial) ?_
    refine G_aload_n rfl rfl ?_
    refine G_iload_n rfl rfl ?_
    refine G_iload_n rfl rfl ?_
    refine G_iload_n rfl rfl ?_
    refine H_callV (c1) rfl rfl rfl rfl rfl rfl rfl rfl ?_
    refine H_ist_5_4 rfl rfl ?_
    refine G_iload rfl rfl ?_
    refine G_if_le rfl (fun h => ?_) (fun h => ?_)
    · rcases hc with q | q | q
      · exact absurd q z
      · rw [q] at h; exact absurd h (by decide)
      · rw [q] at h; exact absurd h (by decide)
    refine G_aload_n rfl rfl ?_
    refine G_iload rfl rfl ?_
    refine H_callV (c2) rfl rfl rfl rfl rfl rfl rfl rfl ?_
    exact H_ret rfl rfl (rfl) (rfl)
set_option maxRecDepth 100000 in
theorem mm_read0 (hC : CR row T (S 25)) (h40 : cnt (hs row) 96 ≤ 40) {t p x : Int32} (h : ¬ (rdOK row t p x = true ∧ tAll row T < 40)) : EvM kM_read [.ref 24, .int t, .int p, .int x] (mk S R) (some (.int (if rdOK row t p x = true then -3 else -1))) (mk S R) := by
  have c1 := ev_merror S R hC h40 t p x
  cases h1 : rdOK row t p x with
  | false =>
    rw [if_neg (by decide)]
    rw [h1, cond_false] at c1
    refine EvM_mk [some (.ref 24), some (.int t), some (.int p), some (.int x), none] rfl rfl rfl rfl rfl (trivial) ?_
    refine G_aload_n rfl rfl ?_
    refine G_iload_n rfl rfl ?_
    refine G_iload_n rfl rfl ?_
    refine G_iload_n rfl rfl ?_
    refine H_callV (c1) rfl rfl rfl rfl rfl rfl rfl rfl ?_
    refine H_ist_5_4 rfl rfl ?_
    refine G_iload rfl rfl ?_
    refine G_if_ge rfl (fun h2 => ?_) (fun h2 => ?_)
    · exact absurd h2 (by decide)
    refine G_iload rfl rfl ?_
    exact H_ret rfl rfl (rfl) (rfl)
  | true =>
    rw [if_pos rfl]
    rw [h1, cond_true, decide_eq_false (fun q => h ⟨h1, q⟩), cond_false] at c1
    refine EvM_mk [some (.ref 24), some (.int t), some (.int p), some (.int x), none] rfl rfl rfl rfl rfl (trivial) ?_
    refine G_aload_n rfl rfl ?_
    refine G_iload_n rfl rfl ?_
    refine G_iload_n rfl rfl ?_
    refine G_iload_n rfl rfl ?_
    refine H_callV (c1) rfl rfl rfl rfl rfl rfl rfl rfl ?_
    refine H_ist_5_4 rfl rfl ?_
    refine G_iload rfl rfl ?_
    refine G_if_ge rfl (fun h2 => ?_) (fun h2 => ?_)
    · exact absurd h2 (by decide)
    refine G_iload rfl rfl ?_
    exact H_ret rfl rfl (rfl) (rfl)
set_option maxRecDepth 100000 in
theorem mm_read (hC : CR row T (S 25)) (h40 : cnt (hs row) 96 ≤ 40) (hπ : Pot row π) {n a p : Nat} (hn : S 24 2 = nI n) (hn4 : n ≤ 4) (ha : a < T) (hp : p < 12) {x : Int32} (hx : isNb x = true) (h4 : tAll row T < 40) : ∃ S1, EvM kM_read [.ref 24, .int (nI a), .int (nI p), .int x] (mk S R) (some (.int (enA row π T a p x))) (mk S1 R) ∧ MD S S1 n (enR row π a p x) T := by
  have hT8 := hC.1.2.1
  have c1 := ev_merror S R hC h40 (nI a) (nI p) x
  have h1 : rdOK row (nI a) (nI p) x = true := by unfold rdOK; rw [tIs_nI hC.1.1 hT8 ha, isPt_nI hp, hx]; rfl
  rw [h1, cond_true, decide_eq_true h4, cond_true] at c1
  obtain ⟨S0, c3, mr⟩ := ev_mrecords S R hn hn4
  obtain ⟨S1, c4, f1, hC1⟩ := ev_mgoRead S0 R (row := row) (T := T) (by rw [mr.1 25 (by decide) (by decide)]; exact hC) hπ ha hp hx
  refine ⟨S1, ?_, S0, mr, f1, hC1⟩
  refine EvM_mk [some (.ref 24), some (.int (nI a)), some (.int (nI p)), some (.int x), none] rfl rfl rfl rfl rfl (trivial) ?_
  refine G_aload_n rfl rfl ?_
  refine G_iload_n rfl rfl ?_
  refine G_iload_n rfl rfl ?_
  refine G_iload_n rfl rfl ?_
  refine H_callV (c1) rfl rfl rfl rfl rfl rfl rfl rfl ?_
  refine H_ist_5_4 rfl rfl ?_
  refine G_iload rfl rfl ?_
  refine G_if_ge rfl (fun h2 => ?_) (fun h2 => ?_)
  · skip
    refine G_aload_n rfl rfl ?_
    refine H_callU (c3) rfl rfl rfl rfl rfl rfl rfl rfl ?_
    refine G_aload_n rfl rfl ?_
    refine G_iload_n rfl rfl ?_
    refine G_iload_n rfl rfl ?_
    refine G_iload_n rfl rfl ?_
    refine H_callV (c4) rfl rfl rfl rfl rfl rfl rfl rfl ?_
    exact H_ret rfl rfl (rfl) (rfl)
  · exact absurd (Int32.le_refl _) h2
set_option maxRecDepth 100000 in
theorem ev_mcanShift (hC : CS row T (S 25)) {a : Nat} (ha : a < 8) (x : Int32) : EvM kM_canShift [.ref 24, .int (nI a), .int x] (mk S R) (some (.int (b2i (decide (cnt (stayB row a x) 12 = 0))))) (mk S R) := by
  refine EvM_mk [some (.ref 24), some (.int (nI a)), some (.int x), none, none] rfl rfl rfl rfl rfl (okb _) ?_
  refine G_iconst rfl ?_
  refine H_ist_5_3 rfl rfl ?_
  refine G_iconst rfl ?_
  refine H_ist_5_4 rfl rfl ?_
  refine down 12 (fun i => Gm kM_canShift 5 [some (.ref 24), some (.int (nI a)), some (.int x), some (.int (b2i (decide (cnt (stayB row a x) i = 0)))), some (.int (nI i))] [] (S, PF R, 32) _ _) ?_ (fun i hi ih => ?_)
  · skip
    refine G_iload rfl rfl ?_
    refine G_bipush rfl ?_
    refine G_icmp_ge rfl (fun h => ?_) (fun h => ?_)
    · skip
      refine G_iload_n rfl rfl ?_
      exact H_ret rfl rfl (rfl) (rfl)
    · exact absurd (by decide) h
  · rw [nI_succ] at ih
    have no : cnt (stayB row a x) (i + 1) ≠ 0 → Gm kM_canShift 45 [some (.ref 24), some (.int (nI a)), some (.int x), some (.int (b2i (decide (cnt (stayB row a x) i = 0)))), some (.int (nI i))] [] (S, PF R, 32) (some (.int (b2i (decide (cnt (stayB row a x) 12 = 0))))) (S, PF R, 32) := fun e => by
      rw [decide_eq_false e] at ih
      refine G_iconst rfl ?_
      refine H_ist_5_3 rfl rfl ?_
      refine H_inc_5_4 rfl rfl ?_
      refine G_goto rfl ?_
      exact ih
    have yes : cnt (stayB row a x) (i + 1) = 0 → Gm kM_canShift 41 [some (.ref 24), some (.int (nI a)), some (.int x), some (.int (b2i (decide (cnt (stayB row a x) i = 0)))), some (.int (nI i))] [] (S, PF R, 32) (some (.int (b2i (decide (cnt (stayB row a x) 12 = 0))))) (S, PF R, 32) := fun e => by
      rw [decide_eq_true e] at ih
      refine G_iconst rfl ?_
      refine G_goto rfl ?_
      refine H_ist_5_3 rfl rfl ?_
      refine H_inc_5_4 rfl rfl ?_
      refine G_goto rfl ?_
      exact ih
    refine G_iload rfl rfl ?_
    refine G_bipush rfl ?_
    refine G_icmp_ge rfl (fun h => ?_) (fun h => ?_)
    · exact absurd h (ge_no hi (by decide))
    refine G_iload_n rfl rfl ?_
    refine G_if_eq rfl (fun h0 => ?_) (fun h0 => ?_)
    · exact no (fun z => of_decide_eq_false (b2i_0.mp h0) (cnt_0.mpr (fun j hj => cnt_0.mp z j (by omega))))
    have h0 := of_decide_eq_true (b2i_n0.mp h0)
    refine G_aload_n rfl rfl ?_
    refine G_iload_n rfl rfl ?_
    refine G_iload rfl rfl ?_
    refine H_callV (ev_mhas S R hC ha hi) rfl rfl rfl rfl rfl rfl rfl rfl ?_
    refine G_if_eq rfl (fun h1 => ?_) (fun h1 => ?_)
    · exact yes (by rw [cnt_f (by rw [stayB, b2i_0.mp h1]; rfl), h0])
    have h1 := b2i_n0.mp h1
    have c4 := ev_mof S R (t := a) (p := i) ha hi
    rw [CR_of hC (by omega) h1] at c4
    refine G_aload_n rfl rfl ?_
    refine G_iload_n rfl rfl ?_
    refine G_iload rfl rfl ?_
    refine H_callV (c4) rfl rfl rfl rfl rfl rfl rfl rfl ?_
    refine G_iload_n rfl rfl ?_
    refine G_iadd rfl ?_
    refine H_callS (ev_misNumber S R (row (a * 12 + i) + x)) rfl rfl rfl rfl rfl ?_
    refine G_if_eq rfl (fun h2 => ?_) (fun h2 => ?_)
    · exact no (by rw [cnt_t (by rw [stayB, h1, b2i_0.mp h2]; rfl)]; omega)
    · exact yes (by rw [cnt_f (by rw [stayB, h1, b2i_n0.mp h2]; rfl), h0])
end MD3
