/-! the contracts of a table: q is the object, w its row -/
def NONE : Int32 := 1000000
def TQ (q w : Nat) : Prop := (q = 1 ∧ w = 2) ∨ (q = 20 ∧ w = 21)
def tIn (t p : Int32) : Bool := decide (¬ t < 0) && decide (¬ 8 ≤ t) && decide (¬ p < 0) && decide (¬ 12 ≤ p)
def tAt (row : Nat → Int32) (t p : Int32) : Int32 := bif tIn t p then row (t * 12 + p).toNatClampNeg else NONE
theorem tIn_ix {t p : Int32} (h : tIn t p = true) : ∃ a b, a < 8 ∧ b < 12 ∧ t = nI a ∧ p = nI b := by
  simp only [tIn, Bool.and_eq_true, decide_eq_true_eq] at h
  obtain ⟨a, ha, ea⟩ := lt_ix 8 (by decide) h.1.1.1 h.1.1.2
  obtain ⟨b, hb, eb⟩ := lt_ix 12 (by decide) h.1.2 h.2
  exact ⟨a, b, ha, hb, ea, eb⟩
theorem tp_nI (a b : Nat) : nI a * 12 + nI b = nI (a * 12 + b) := by
  rw [← nI_add, ← pk_mul]
  rfl
theorem tIn_nI {a b : Nat} (ha : a < 8) (hb : b < 12) : tIn (nI a) (nI b) = true := by
  simp only [tIn, Bool.and_eq_true, decide_eq_true_eq]
  exact ⟨⟨⟨nI_pos (by omega), ge_no (n := 8) ha (by decide)⟩, nI_pos (by omega)⟩, ge_no (n := 12) hb (by decide)⟩
theorem tAt_nI {row : Nat → Int32} {a b : Nat} (ha : a < 8) (hb : b < 12) : tAt row (nI a) (nI b) = row (a * 12 + b) := by
  rw [tAt, tIn_nI ha hb, cond_true, tp_nI, nI_clamp (by omega)]
theorem tAt_out {row : Nat → Int32} {t p : Int32} (h : tIn t p = false) : tAt row t p = NONE := by rw [tAt, h, cond_false]
set_option maxRecDepth 100000 in
theorem ev_tapes {q w : Nat} (hq : TQ q w) (S : Nat → Nat → Int32) (R : Nat → Nat) : EvM kTable_tapes [.ref q] (mk S R) (some (.int (S w 96))) (mk S R) := by
  rcases hq with ⟨rfl, rfl⟩ | ⟨rfl, rfl⟩
  · refine EvM_mk [some (.ref _)] rfl rfl rfl rfl rfl (trivial) ?_
    refine G_aload_n rfl rfl ?_
    refine H_getR rfl rfl rfl rfl rfl rfl ?_
    refine G_bipush rfl ?_
    refine H_iald rfl ((show (96 : Int32) = nI 96 from rfl)) (rfl) ((by decide)) (rfl) ?_
    exact H_ret rfl rfl (rfl) (rfl)
  · refine EvM_mk [some (.ref _)] rfl rfl rfl rfl rfl (trivial) ?_
    refine G_aload_n rfl rfl ?_
    refine H_getR rfl rfl rfl rfl rfl rfl ?_
    refine G_bipush rfl ?_
    refine H_iald rfl ((show (96 : Int32) = nI 96 from rfl)) (rfl) ((by decide)) (rfl) ?_
    exact H_ret rfl rfl (rfl) (rfl)
def tIs (row : Nat → Int32) (t : Int32) : Bool := decide (¬ t < 0) && decide (¬ row 96 ≤ t)
set_option maxRecDepth 100000 in
theorem ev_isTape {q w : Nat} (hq : TQ q w) (S : Nat → Nat → Int32) (R : Nat → Nat) (t : Int32) : EvM kTable_isTape [.ref q, .int t] (mk S R) (some (.int (b2i (tIs (S w) t)))) (mk S R) := by
  rcases hq with ⟨rfl, rfl⟩ | ⟨rfl, rfl⟩
  · refine EvM_mk [some (.ref _), some (.int t)] rfl rfl rfl rfl rfl (okb _) ?_
    refine G_iload_n rfl rfl ?_
    refine G_if_lt rfl (fun h1 => ?_) (fun h1 => ?_)
    · skip
      refine G_iconst rfl ?_
      exact H_ret rfl rfl ((by simp [tIs, h1, b2i])) (rfl)
    refine G_iload_n rfl rfl ?_
    refine G_aload_n rfl rfl ?_
    refine H_getR rfl rfl rfl rfl rfl rfl ?_
    refine G_bipush rfl ?_
    refine H_iald rfl ((show (96 : Int32) = nI 96 from rfl)) (rfl) ((by decide)) (rfl) ?_
    refine G_icmp_ge rfl (fun h2 => ?_) (fun h2 => ?_)
    · skip
      refine G_iconst rfl ?_
      exact H_ret rfl rfl ((by simp [tIs, h2, b2i])) (rfl)
    refine G_iconst rfl ?_
    refine G_goto rfl ?_
    exact H_ret rfl rfl ((by simp [tIs, h1, h2, b2i])) (rfl)
  · refine EvM_mk [some (.ref _), some (.int t)] rfl rfl rfl rfl rfl (okb _) ?_
    refine G_iload_n rfl rfl ?_
    refine G_if_lt rfl (fun h1 => ?_) (fun h1 => ?_)
    · skip
      refine G_iconst rfl ?_
      exact H_ret rfl rfl ((by simp [tIs, h1, b2i])) (rfl)
    refine G_iload_n rfl rfl ?_
    refine G_aload_n rfl rfl ?_
    refine H_getR rfl rfl rfl rfl rfl rfl ?_
    refine G_bipush rfl ?_
    refine H_iald rfl ((show (96 : Int32) = nI 96 from rfl)) (rfl) ((by decide)) (rfl) ?_
    refine G_icmp_ge rfl (fun h2 => ?_) (fun h2 => ?_)
    · skip
      refine G_iconst rfl ?_
      exact H_ret rfl rfl ((by simp [tIs, h2, b2i])) (rfl)
    refine G_iconst rfl ?_
    refine G_goto rfl ?_
    exact H_ret rfl rfl ((by simp [tIs, h1, h2, b2i])) (rfl)
set_option maxRecDepth 100000 in
theorem ev_at {q w : Nat} (hq : TQ q w) (S : Nat → Nat → Int32) (R : Nat → Nat) (t p : Int32) : EvM kTable_at [.ref q, .int t, .int p] (mk S R) (some (.int (tAt (S w) t p))) (mk S R) := by
  rcases hq with ⟨rfl, rfl⟩ | ⟨rfl, rfl⟩
  · refine EvM_mk [some (.ref _), some (.int t), some (.int p), none] rfl rfl rfl rfl rfl (trivial) ?_
    have out : tIn t p = false → ∀ (w : Nat) (q : Nat), Gm kTable_at 24 [some (.ref q), some (.int t), some (.int p), none] [] (S, PF R, 24) (some (.int (tAt (S w) t p))) (S, PF R, 24) := fun ho w q => by
      refine G_iconst rfl ?_
      refine H_ist_4_3 rfl rfl ?_
      refine G_iload_n rfl rfl ?_
      refine G_if_eq rfl (fun h9 => ?_) (fun h9 => ?_)
      · skip
        refine G_ldc rfl ?_
        exact H_ret rfl rfl ((by rw [tAt_out ho]; rfl)) (rfl)
      · exact absurd rfl h9
    refine G_iload_n rfl rfl ?_
    refine G_if_lt rfl (fun h1 => ?_) (fun h1 => ?_)
    · exact out (by simp [tIn, h1]) _ _
    refine G_iload_n rfl rfl ?_
    refine G_bipush rfl ?_
    refine G_icmp_ge rfl (fun h2 => ?_) (fun h2 => ?_)
    · exact out (by simp [tIn, h2]) _ _
    refine G_iload_n rfl rfl ?_
    refine G_if_lt rfl (fun h3 => ?_) (fun h3 => ?_)
    · exact out (by simp [tIn, h3]) _ _
    refine G_iload_n rfl rfl ?_
    refine G_bipush rfl ?_
    refine G_icmp_ge rfl (fun h4 => ?_) (fun h4 => ?_)
    · exact out (by simp [tIn, h4]) _ _
    have hin : tIn t p = true := by simp [tIn, h1, h2, h3, h4]
    obtain ⟨a, b, ha, hb, rfl, rfl⟩ := tIn_ix hin
    refine G_iconst rfl ?_
    refine G_goto rfl ?_
    refine H_ist_4_3 rfl rfl ?_
    refine G_iload_n rfl rfl ?_
    refine G_if_eq rfl (fun h9 => ?_) (fun h9 => ?_)
    · exact absurd h9 (by decide)
    refine G_aload_n rfl rfl ?_
    refine H_getR rfl rfl rfl rfl rfl rfl ?_
    refine G_iload_n rfl rfl ?_
    refine G_bipush rfl ?_
    refine G_imul rfl ?_
    refine G_iload_n rfl rfl ?_
    refine G_iadd rfl ?_
    refine H_iald rfl ((tp_nI a b)) (rfl) ((by omega)) (rfl) ?_
    refine G_goto rfl ?_
    exact H_ret rfl rfl ((by rw [tAt_nI ha hb])) (rfl)
  · refine EvM_mk [some (.ref _), some (.int t), some (.int p), none] rfl rfl rfl rfl rfl (trivial) ?_
    have out : tIn t p = false → ∀ (w : Nat) (q : Nat), Gm kTable_at 24 [some (.ref q), some (.int t), some (.int p), none] [] (S, PF R, 24) (some (.int (tAt (S w) t p))) (S, PF R, 24) := fun ho w q => by
      refine G_iconst rfl ?_
      refine H_ist_4_3 rfl rfl ?_
      refine G_iload_n rfl rfl ?_
      refine G_if_eq rfl (fun h9 => ?_) (fun h9 => ?_)
      · skip
        refine G_ldc rfl ?_
        exact H_ret rfl rfl ((by rw [tAt_out ho]; rfl)) (rfl)
      · exact absurd rfl h9
    refine G_iload_n rfl rfl ?_
    refine G_if_lt rfl (fun h1 => ?_) (fun h1 => ?_)
    · exact out (by simp [tIn, h1]) _ _
    refine G_iload_n rfl rfl ?_
    refine G_bipush rfl ?_
    refine G_icmp_ge rfl (fun h2 => ?_) (fun h2 => ?_)
    · exact out (by simp [tIn, h2]) _ _
    refine G_iload_n rfl rfl ?_
    refine G_if_lt rfl (fun h3 => ?_) (fun h3 => ?_)
    · exact out (by simp [tIn, h3]) _ _
    refine G_iload_n rfl rfl ?_
    refine G_bipush rfl ?_
    refine G_icmp_ge rfl (fun h4 => ?_) (fun h4 => ?_)
    · exact out (by simp [tIn, h4]) _ _
    have hin : tIn t p = true := by simp [tIn, h1, h2, h3, h4]
    obtain ⟨a, b, ha, hb, rfl, rfl⟩ := tIn_ix hin
    refine G_iconst rfl ?_
    refine G_goto rfl ?_
    refine H_ist_4_3 rfl rfl ?_
    refine G_iload_n rfl rfl ?_
    refine G_if_eq rfl (fun h9 => ?_) (fun h9 => ?_)
    · exact absurd h9 (by decide)
    refine G_aload_n rfl rfl ?_
    refine H_getR rfl rfl rfl rfl rfl rfl ?_
    refine G_iload_n rfl rfl ?_
    refine G_bipush rfl ?_
    refine G_imul rfl ?_
    refine G_iload_n rfl rfl ?_
    refine G_iadd rfl ?_
    refine H_iald rfl ((tp_nI a b)) (rfl) ((by omega)) (rfl) ?_
    refine G_goto rfl ?_
    exact H_ret rfl rfl ((by rw [tAt_nI ha hb])) (rfl)
def tHas (row : Nat → Int32) (t p : Int32) : Bool := !decide (tAt row t p = NONE)
set_option maxRecDepth 100000 in
theorem ev_has {q w : Nat} (hq : TQ q w) (S : Nat → Nat → Int32) (R : Nat → Nat) (t p : Int32) : EvM kTable_has [.ref q, .int t, .int p] (mk S R) (some (.int (b2i (tHas (S w) t p)))) (mk S R) := by
  have hm := ev_at hq S R t p
  have hN : ∀ x : Int32, (x = 1000000) = (x = NONE) := fun _ => rfl
  rcases hq with ⟨rfl, rfl⟩ | ⟨rfl, rfl⟩
  · refine EvM_mk [some (.ref _), some (.int t), some (.int p)] rfl rfl rfl rfl rfl (okb _) ?_
    refine G_aload_n rfl rfl ?_
    refine G_iload_n rfl rfl ?_
    refine G_iload_n rfl rfl ?_
    refine H_callV (hm) rfl rfl rfl rfl rfl rfl rfl rfl ?_
    refine G_ldc rfl ?_
    refine G_icmp_eq rfl (fun h => ?_) (fun h => ?_)
    · skip
      refine G_iconst rfl ?_
      exact H_ret rfl rfl ((by rw [hN] at h; simp [tHas, h, b2i])) (rfl)
    refine G_iconst rfl ?_
    refine G_goto rfl ?_
    exact H_ret rfl rfl ((by rw [hN] at h; simp [tHas, h, b2i])) (rfl)
  · refine EvM_mk [some (.ref _), some (.int t), some (.int p)] rfl rfl rfl rfl rfl (okb _) ?_
    refine G_aload_n rfl rfl ?_
    refine G_iload_n rfl rfl ?_
    refine G_iload_n rfl rfl ?_
    refine H_callV (hm) rfl rfl rfl rfl rfl rfl rfl rfl ?_
    refine G_ldc rfl ?_
    refine G_icmp_eq rfl (fun h => ?_) (fun h => ?_)
    · skip
      refine G_iconst rfl ?_
      exact H_ret rfl rfl ((by rw [hN] at h; simp [tHas, h, b2i])) (rfl)
    refine G_iconst rfl ?_
    refine G_goto rfl ?_
    exact H_ret rfl rfl ((by rw [hN] at h; simp [tHas, h, b2i])) (rfl)
def tPut (row : Nat → Int32) (t p x : Int32) : Nat → Int32 := bif tIn t p then upd row (t * 12 + p).toNatClampNeg x else row
theorem tPut_nI {row : Nat → Int32} {a b : Nat} {x : Int32} (ha : a < 8) (hb : b < 12) : tPut row (nI a) (nI b) x = upd row (a * 12 + b) x := by
  rw [tPut, tIn_nI ha hb, cond_true, tp_nI, nI_clamp (by omega)]
set_option maxRecDepth 100000 in
theorem ev_put {q w : Nat} (hq : TQ q w) (S : Nat → Nat → Int32) (R : Nat → Nat) (t p x : Int32) : EvM kTable_put [.ref q, .int t, .int p, .int x] (mk S R) none (mk (u2 S w (tPut (S w) t p x)) R) := by
  rcases hq with ⟨rfl, rfl⟩ | ⟨rfl, rfl⟩
  · refine EvM_mk [some (.ref _), some (.int t), some (.int p), some (.int x)] rfl rfl rfl rfl rfl (trivial) ?_
    have out : tIn t p = false → ∀ (w : Nat) (q : Nat), Gm kTable_put 32 [some (.ref q), some (.int t), some (.int p), some (.int x)] [] (S, PF R, 24) none (u2 S w (tPut (S w) t p x), PF R, 24) := fun ho w q => by
      exact H_retv rfl rfl ((by rw [tPut, ho, cond_false, u2_self]))
    refine G_iload_n rfl rfl ?_
    refine G_if_lt rfl (fun h1 => ?_) (fun h1 => ?_)
    · exact out (by simp [tIn, h1]) _ _
    refine G_iload_n rfl rfl ?_
    refine G_bipush rfl ?_
    refine G_icmp_ge rfl (fun h2 => ?_) (fun h2 => ?_)
    · exact out (by simp [tIn, h2]) _ _
    refine G_iload_n rfl rfl ?_
    refine G_if_lt rfl (fun h3 => ?_) (fun h3 => ?_)
    · exact out (by simp [tIn, h3]) _ _
    refine G_iload_n rfl rfl ?_
    refine G_bipush rfl ?_
    refine G_icmp_ge rfl (fun h4 => ?_) (fun h4 => ?_)
    · exact out (by simp [tIn, h4]) _ _
    have hin : tIn t p = true := by simp [tIn, h1, h2, h3, h4]
    obtain ⟨a, b, ha, hb, rfl, rfl⟩ := tIn_ix hin
    refine G_aload_n rfl rfl ?_
    refine H_getR rfl rfl rfl rfl rfl rfl ?_
    refine G_iload_n rfl rfl ?_
    refine G_bipush rfl ?_
    refine G_imul rfl ?_
    refine G_iload_n rfl rfl ?_
    refine G_iadd rfl ?_
    refine G_iload_n rfl rfl ?_
    refine H_iast rfl ((tp_nI a b)) (rfl) ((by omega)) (rfl) ?_
    exact H_retv rfl rfl ((by rw [tPut_nI ha hb]))
  · refine EvM_mk [some (.ref _), some (.int t), some (.int p), some (.int x)] rfl rfl rfl rfl rfl (trivial) ?_
    have out : tIn t p = false → ∀ (w : Nat) (q : Nat), Gm kTable_put 32 [some (.ref q), some (.int t), some (.int p), some (.int x)] [] (S, PF R, 24) none (u2 S w (tPut (S w) t p x), PF R, 24) := fun ho w q => by
      exact H_retv rfl rfl ((by rw [tPut, ho, cond_false, u2_self]))
    refine G_iload_n rfl rfl ?_
    refine G_if_lt rfl (fun h1 => ?_) (fun h1 => ?_)
    · exact out (by simp [tIn, h1]) _ _
    refine G_iload_n rfl rfl ?_
    refine G_bipush rfl ?_
    refine G_icmp_ge rfl (fun h2 => ?_) (fun h2 => ?_)
    · exact out (by simp [tIn, h2]) _ _
    refine G_iload_n rfl rfl ?_
    refine G_if_lt rfl (fun h3 => ?_) (fun h3 => ?_)
    · exact out (by simp [tIn, h3]) _ _
    refine G_iload_n rfl rfl ?_
    refine G_bipush rfl ?_
    refine G_icmp_ge rfl (fun h4 => ?_) (fun h4 => ?_)
    · exact out (by simp [tIn, h4]) _ _
    have hin : tIn t p = true := by simp [tIn, h1, h2, h3, h4]
    obtain ⟨a, b, ha, hb, rfl, rfl⟩ := tIn_ix hin
    refine G_aload_n rfl rfl ?_
    refine H_getR rfl rfl rfl rfl rfl rfl ?_
    refine G_iload_n rfl rfl ?_
    refine G_bipush rfl ?_
    refine G_imul rfl ?_
    refine G_iload_n rfl rfl ?_
    refine G_iadd rfl ?_
    refine G_iload_n rfl rfl ?_
    refine H_iast rfl ((tp_nI a b)) (rfl) ((by omega)) (rfl) ?_
    exact H_retv rfl rfl ((by rw [tPut_nI ha hb]))
set_option maxRecDepth 100000 in
theorem ev_bring {q w : Nat} (hq : TQ q w) (S : Nat → Nat → Int32) (R : Nat → Nat) : EvM kTable_bring [.ref q] (mk S R) (some (.int (S w 96))) (mk (u2 S w (upd (S w) 96 (S w 96 + 1))) R) := by
  rcases hq with ⟨rfl, rfl⟩ | ⟨rfl, rfl⟩
  · refine EvM_mk [some (.ref _)] rfl rfl rfl rfl rfl (trivial) ?_
    refine G_aload_n rfl rfl ?_
    refine H_getR rfl rfl rfl rfl rfl rfl ?_
    refine G_bipush rfl ?_
    refine G_dup2 rfl rfl rfl ?_
    refine H_iald rfl ((show (96 : Int32) = nI 96 from rfl)) (rfl) ((by decide)) (rfl) ?_
    refine G_iconst rfl ?_
    refine G_iadd rfl ?_
    refine H_iast rfl ((show (96 : Int32) = nI 96 from rfl)) (rfl) ((by decide)) (rfl) ?_
    refine G_aload_n rfl rfl ?_
    refine H_getR rfl rfl rfl rfl rfl rfl ?_
    refine G_bipush rfl ?_
    refine H_iald rfl ((show (96 : Int32) = nI 96 from rfl)) (rfl) ((by decide)) (rfl) ?_
    refine G_iconst rfl ?_
    refine G_isub rfl ?_
    exact H_ret rfl rfl ((by rw [u2_same, upd_same]; exact Int32.add_sub_cancel _ _)) (rfl)
  · refine EvM_mk [some (.ref _)] rfl rfl rfl rfl rfl (trivial) ?_
    refine G_aload_n rfl rfl ?_
    refine H_getR rfl rfl rfl rfl rfl rfl ?_
    refine G_bipush rfl ?_
    refine G_dup2 rfl rfl rfl ?_
    refine H_iald rfl ((show (96 : Int32) = nI 96 from rfl)) (rfl) ((by decide)) (rfl) ?_
    refine G_iconst rfl ?_
    refine G_iadd rfl ?_
    refine H_iast rfl ((show (96 : Int32) = nI 96 from rfl)) (rfl) ((by decide)) (rfl) ?_
    refine G_aload_n rfl rfl ?_
    refine H_getR rfl rfl rfl rfl rfl rfl ?_
    refine G_bipush rfl ?_
    refine H_iald rfl ((show (96 : Int32) = nI 96 from rfl)) (rfl) ((by decide)) (rfl) ?_
    refine G_iconst rfl ?_
    refine G_isub rfl ?_
    exact H_ret rfl rfl ((by rw [u2_same, upd_same]; exact Int32.add_sub_cancel _ _)) (rfl)
/-- how many readings a tape has -/
def tOf (row : Nat → Int32) (t : Int32) (n : Nat) : Nat := cnt (fun i => tHas row t (nI i)) n
set_option maxRecDepth 100000 in
theorem ev_readingsOf {q w : Nat} (hq : TQ q w) (S : Nat → Nat → Int32) (R : Nat → Nat) (t : Int32) : EvM kTable_readingsOf [.ref q, .int t] (mk S R) (some (.int (nI (tOf (S w) t 12)))) (mk S R) := by
  have hm := fun p => ev_has hq S R t p
  rcases hq with ⟨rfl, rfl⟩ | ⟨rfl, rfl⟩
  · refine EvM_mk [some (.ref _), some (.int t), none, none] rfl rfl rfl rfl rfl (trivial) ?_
    refine G_iconst rfl ?_
    refine H_ist_4_2 rfl rfl ?_
    refine G_iconst rfl ?_
    refine H_ist_4_3 rfl rfl ?_
    refine down 12 (fun i => Gm kTable_readingsOf 4 [some (.ref 1), some (.int t), some (.int (nI (tOf (S 2) t i))), some (.int (nI i))] [] (S, PF R, 24) _ _) ?_ (fun i hi ih => ?_)
    · skip
      refine G_iload_n rfl rfl ?_
      refine G_bipush rfl ?_
      refine G_icmp_ge rfl (fun h => ?_) (fun h => ?_)
      · skip
        refine G_iload_n rfl rfl ?_
        exact H_ret rfl rfl (rfl) (rfl)
      · exact absurd (by decide) h
    · skip
      refine G_iload_n rfl rfl ?_
      refine G_bipush rfl ?_
      refine G_icmp_ge rfl (fun h => ?_) (fun h => ?_)
      · exact absurd h (ge_no hi (by decide))
      refine G_iload_n rfl rfl ?_
      refine G_aload_n rfl rfl ?_
      refine G_iload_n rfl rfl ?_
      refine G_iload_n rfl rfl ?_
      refine H_callV (hm (nI i)) rfl rfl rfl rfl rfl rfl rfl rfl ?_
      refine G_if_eq rfl (fun h => ?_) (fun h => ?_)
      · skip
        refine G_iconst rfl ?_
        refine G_iadd rfl ?_
        refine H_ist_4_2 rfl rfl ?_
        refine H_inc_4_3 rfl rfl ?_
        refine G_goto rfl ?_
        rw [show tOf (S 2) t (i + 1) = tOf (S 2) t i from cnt_f (b2i_0.mp h)] at ih
        rw [nI_succ, ← Int32.add_zero (nI (tOf (S 2) t i))] at ih
        exact ih
      · skip
        refine G_iconst rfl ?_
        refine G_goto rfl ?_
        refine G_iadd rfl ?_
        refine H_ist_4_2 rfl rfl ?_
        refine H_inc_4_3 rfl rfl ?_
        refine G_goto rfl ?_
        rw [show tOf (S 2) t (i + 1) = tOf (S 2) t i + 1 from cnt_t (b2i_n0.mp h), nI_succ, nI_succ] at ih
        exact ih
  · refine EvM_mk [some (.ref _), some (.int t), none, none] rfl rfl rfl rfl rfl (trivial) ?_
    refine G_iconst rfl ?_
    refine H_ist_4_2 rfl rfl ?_
    refine G_iconst rfl ?_
    refine H_ist_4_3 rfl rfl ?_
    refine down 12 (fun i => Gm kTable_readingsOf 4 [some (.ref 20), some (.int t), some (.int (nI (tOf (S 21) t i))), some (.int (nI i))] [] (S, PF R, 24) _ _) ?_ (fun i hi ih => ?_)
    · skip
      refine G_iload_n rfl rfl ?_
      refine G_bipush rfl ?_
      refine G_icmp_ge rfl (fun h => ?_) (fun h => ?_)
      · skip
        refine G_iload_n rfl rfl ?_
        exact H_ret rfl rfl (rfl) (rfl)
      · exact absurd (by decide) h
    · skip
      refine G_iload_n rfl rfl ?_
      refine G_bipush rfl ?_
      refine G_icmp_ge rfl (fun h => ?_) (fun h => ?_)
      · exact absurd h (ge_no hi (by decide))
      refine G_iload_n rfl rfl ?_
      refine G_aload_n rfl rfl ?_
      refine G_iload_n rfl rfl ?_
      refine G_iload_n rfl rfl ?_
      refine H_callV (hm (nI i)) rfl rfl rfl rfl rfl rfl rfl rfl ?_
      refine G_if_eq rfl (fun h => ?_) (fun h => ?_)
      · skip
        refine G_iconst rfl ?_
        refine G_iadd rfl ?_
        refine H_ist_4_2 rfl rfl ?_
        refine H_inc_4_3 rfl rfl ?_
        refine G_goto rfl ?_
        rw [show tOf (S 21) t (i + 1) = tOf (S 21) t i from cnt_f (b2i_0.mp h)] at ih
        rw [nI_succ, ← Int32.add_zero (nI (tOf (S 21) t i))] at ih
        exact ih
      · skip
        refine G_iconst rfl ?_
        refine G_goto rfl ?_
        refine G_iadd rfl ?_
        refine H_ist_4_2 rfl rfl ?_
        refine H_inc_4_3 rfl rfl ?_
        refine G_goto rfl ?_
        rw [show tOf (S 21) t (i + 1) = tOf (S 21) t i + 1 from cnt_t (b2i_n0.mp h), nI_succ, nI_succ] at ih
        exact ih
/-- how many tapes have a reading at a point -/
def tAtP (row : Nat → Int32) (p : Int32) (n : Nat) : Nat := cnt (fun i => tHas row (nI i) p) n
set_option maxRecDepth 100000 in
theorem ev_readingsAt {q w : Nat} (hq : TQ q w) (S : Nat → Nat → Int32) (R : Nat → Nat) (p : Int32) {T : Nat} (hT : S w 96 = nI T) (hT8 : T ≤ 8) : EvM kTable_readingsAt [.ref q, .int p] (mk S R) (some (.int (nI (tAtP (S w) p T)))) (mk S R) := by
  have hm := fun t => ev_has hq S R t p
  have ht := ev_tapes hq S R
  rw [hT] at ht
  rcases hq with ⟨rfl, rfl⟩ | ⟨rfl, rfl⟩
  · refine EvM_mk [some (.ref _), some (.int p), none, none] rfl rfl rfl rfl rfl (trivial) ?_
    refine G_iconst rfl ?_
    refine H_ist_4_2 rfl rfl ?_
    refine G_iconst rfl ?_
    refine H_ist_4_3 rfl rfl ?_
    refine down T (fun i => Gm kTable_readingsAt 4 [some (.ref 1), some (.int p), some (.int (nI (tAtP (S 2) p i))), some (.int (nI i))] [] (S, PF R, 24) _ _) ?_ (fun i hi ih => ?_)
    · skip
      refine G_iload_n rfl rfl ?_
      refine G_aload_n rfl rfl ?_
      refine H_callV (ht) rfl rfl rfl rfl rfl rfl rfl rfl ?_
      refine G_icmp_ge rfl (fun h => ?_) (fun h => ?_)
      · skip
        refine G_iload_n rfl rfl ?_
        exact H_ret rfl rfl (rfl) (rfl)
      · exact absurd (Int32.le_refl _) h
    · skip
      refine G_iload_n rfl rfl ?_
      refine G_aload_n rfl rfl ?_
      refine H_callV (ht) rfl rfl rfl rfl rfl rfl rfl rfl ?_
      refine G_icmp_ge rfl (fun h => ?_) (fun h => ?_)
      · exact absurd h (ge_no hi (by omega))
      refine G_iload_n rfl rfl ?_
      refine G_aload_n rfl rfl ?_
      refine G_iload_n rfl rfl ?_
      refine G_iload_n rfl rfl ?_
      refine H_callV (hm (nI i)) rfl rfl rfl rfl rfl rfl rfl rfl ?_
      refine G_if_eq rfl (fun h => ?_) (fun h => ?_)
      · skip
        refine G_iconst rfl ?_
        refine G_iadd rfl ?_
        refine H_ist_4_2 rfl rfl ?_
        refine H_inc_4_3 rfl rfl ?_
        refine G_goto rfl ?_
        rw [show tAtP (S 2) p (i + 1) = tAtP (S 2) p i from cnt_f (b2i_0.mp h)] at ih
        rw [nI_succ, ← Int32.add_zero (nI (tAtP (S 2) p i))] at ih
        exact ih
      · skip
        refine G_iconst rfl ?_
        refine G_goto rfl ?_
        refine G_iadd rfl ?_
        refine H_ist_4_2 rfl rfl ?_
        refine H_inc_4_3 rfl rfl ?_
        refine G_goto rfl ?_
        rw [show tAtP (S 2) p (i + 1) = tAtP (S 2) p i + 1 from cnt_t (b2i_n0.mp h), nI_succ, nI_succ] at ih
        exact ih
  · refine EvM_mk [some (.ref _), some (.int p), none, none] rfl rfl rfl rfl rfl (trivial) ?_
    refine G_iconst rfl ?_
    refine H_ist_4_2 rfl rfl ?_
    refine G_iconst rfl ?_
    refine H_ist_4_3 rfl rfl ?_
    refine down T (fun i => Gm kTable_readingsAt 4 [some (.ref 20), some (.int p), some (.int (nI (tAtP (S 21) p i))), some (.int (nI i))] [] (S, PF R, 24) _ _) ?_ (fun i hi ih => ?_)
    · skip
      refine G_iload_n rfl rfl ?_
      refine G_aload_n rfl rfl ?_
      refine H_callV (ht) rfl rfl rfl rfl rfl rfl rfl rfl ?_
      refine G_icmp_ge rfl (fun h => ?_) (fun h => ?_)
      · skip
        refine G_iload_n rfl rfl ?_
        exact H_ret rfl rfl (rfl) (rfl)
      · exact absurd (Int32.le_refl _) h
    · skip
      refine G_iload_n rfl rfl ?_
      refine G_aload_n rfl rfl ?_
      refine H_callV (ht) rfl rfl rfl rfl rfl rfl rfl rfl ?_
      refine G_icmp_ge rfl (fun h => ?_) (fun h => ?_)
      · exact absurd h (ge_no hi (by omega))
      refine G_iload_n rfl rfl ?_
      refine G_aload_n rfl rfl ?_
      refine G_iload_n rfl rfl ?_
      refine G_iload_n rfl rfl ?_
      refine H_callV (hm (nI i)) rfl rfl rfl rfl rfl rfl rfl rfl ?_
      refine G_if_eq rfl (fun h => ?_) (fun h => ?_)
      · skip
        refine G_iconst rfl ?_
        refine G_iadd rfl ?_
        refine H_ist_4_2 rfl rfl ?_
        refine H_inc_4_3 rfl rfl ?_
        refine G_goto rfl ?_
        rw [show tAtP (S 21) p (i + 1) = tAtP (S 21) p i from cnt_f (b2i_0.mp h)] at ih
        rw [nI_succ, ← Int32.add_zero (nI (tAtP (S 21) p i))] at ih
        exact ih
      · skip
        refine G_iconst rfl ?_
        refine G_goto rfl ?_
        refine G_iadd rfl ?_
        refine H_ist_4_2 rfl rfl ?_
        refine H_inc_4_3 rfl rfl ?_
        refine G_goto rfl ?_
        rw [show tAtP (S 21) p (i + 1) = tAtP (S 21) p i + 1 from cnt_t (b2i_n0.mp h), nI_succ, nI_succ] at ih
        exact ih
/-- how many readings there are on the first n tapes -/
def tAll (row : Nat → Int32) (n : Nat) : Nat := sm (fun i => tOf row (nI i) 12) n
set_option maxRecDepth 100000 in
theorem ev_readings {q w : Nat} (hq : TQ q w) (S : Nat → Nat → Int32) (R : Nat → Nat) {T : Nat} (hT : S w 96 = nI T) (hT8 : T ≤ 8) : EvM kTable_readings [.ref q] (mk S R) (some (.int (nI (tAll (S w) T)))) (mk S R) := by
  have hm := fun t => ev_readingsOf hq S R t
  have ht := ev_tapes hq S R
  rw [hT] at ht
  rcases hq with ⟨rfl, rfl⟩ | ⟨rfl, rfl⟩
  · refine EvM_mk [some (.ref _), none, none] rfl rfl rfl rfl rfl (trivial) ?_
    refine G_iconst rfl ?_
    refine H_ist_3_1 rfl rfl ?_
    refine G_iconst rfl ?_
    refine H_ist_3_2 rfl rfl ?_
    refine down T (fun i => Gm kTable_readings 4 [some (.ref 1), some (.int (nI (tAll (S 2) i))), some (.int (nI i))] [] (S, PF R, 24) _ _) ?_ (fun i hi ih => ?_)
    · skip
      refine G_iload_n rfl rfl ?_
      refine G_aload_n rfl rfl ?_
      refine H_callV (ht) rfl rfl rfl rfl rfl rfl rfl rfl ?_
      refine G_icmp_ge rfl (fun h => ?_) (fun h => ?_)
      · skip
        refine G_iload_n rfl rfl ?_
        exact H_ret rfl rfl (rfl) (rfl)
      · exact absurd (Int32.le_refl _) h
    · skip
      refine G_iload_n rfl rfl ?_
      refine G_aload_n rfl rfl ?_
      refine H_callV (ht) rfl rfl rfl rfl rfl rfl rfl rfl ?_
      refine G_icmp_ge rfl (fun h => ?_) (fun h => ?_)
      · exact absurd h (ge_no hi (by omega))
      refine G_iload_n rfl rfl ?_
      refine G_aload_n rfl rfl ?_
      refine G_iload_n rfl rfl ?_
      refine H_callV (hm (nI i)) rfl rfl rfl rfl rfl rfl rfl rfl ?_
      refine G_iadd rfl ?_
      refine H_ist_3_1 rfl rfl ?_
      refine H_inc_3_2 rfl rfl ?_
      refine G_goto rfl ?_
      rw [nI_add, ← nI_succ]
      exact ih
  · refine EvM_mk [some (.ref _), none, none] rfl rfl rfl rfl rfl (trivial) ?_
    refine G_iconst rfl ?_
    refine H_ist_3_1 rfl rfl ?_
    refine G_iconst rfl ?_
    refine H_ist_3_2 rfl rfl ?_
    refine down T (fun i => Gm kTable_readings 4 [some (.ref 20), some (.int (nI (tAll (S 21) i))), some (.int (nI i))] [] (S, PF R, 24) _ _) ?_ (fun i hi ih => ?_)
    · skip
      refine G_iload_n rfl rfl ?_
      refine G_aload_n rfl rfl ?_
      refine H_callV (ht) rfl rfl rfl rfl rfl rfl rfl rfl ?_
      refine G_icmp_ge rfl (fun h => ?_) (fun h => ?_)
      · skip
        refine G_iload_n rfl rfl ?_
        exact H_ret rfl rfl (rfl) (rfl)
      · exact absurd (Int32.le_refl _) h
    · skip
      refine G_iload_n rfl rfl ?_
      refine G_aload_n rfl rfl ?_
      refine H_callV (ht) rfl rfl rfl rfl rfl rfl rfl rfl ?_
      refine G_icmp_ge rfl (fun h => ?_) (fun h => ?_)
      · exact absurd h (ge_no hi (by omega))
      refine G_iload_n rfl rfl ?_
      refine G_aload_n rfl rfl ?_
      refine G_iload_n rfl rfl ?_
      refine H_callV (hm (nI i)) rfl rfl rfl rfl rfl rfl rfl rfl ?_
      refine G_iadd rfl ?_
      refine H_ist_3_1 rfl rfl ?_
      refine H_inc_3_2 rfl rfl ?_
      refine G_goto rfl ?_
      rw [nI_add, ← nI_succ]
      exact ih
def tBare (row : Nat → Int32) (T n : Nat) : Nat := cnt (fun i => decide (tAtP row (nI i) T = 0)) n
theorem nI_0iff {n : Nat} (h : n < 2 ^ 31) : nI n = 0 ↔ n = 0 := by
  have := nI_eq h (show 0 < 2 ^ 31 by decide)
  exact this
set_option maxRecDepth 100000 in
theorem ev_barePoints {q w : Nat} (hq : TQ q w) (S : Nat → Nat → Int32) (R : Nat → Nat) {T : Nat} (hT : S w 96 = nI T) (hT8 : T ≤ 8) : EvM kTable_barePoints [.ref q] (mk S R) (some (.int (nI (tBare (S w) T 12)))) (mk S R) := by
  have hm := fun p => ev_readingsAt hq S R p hT hT8
  rcases hq with ⟨rfl, rfl⟩ | ⟨rfl, rfl⟩
  · refine EvM_mk [some (.ref _), none, none] rfl rfl rfl rfl rfl (trivial) ?_
    refine G_iconst rfl ?_
    refine H_ist_3_1 rfl rfl ?_
    refine G_iconst rfl ?_
    refine H_ist_3_2 rfl rfl ?_
    refine down 12 (fun i => Gm kTable_barePoints 4 [some (.ref 1), some (.int (nI (tBare (S 2) T i))), some (.int (nI i))] [] (S, PF R, 24) _ _) ?_ (fun i hi ih => ?_)
    · skip
      refine G_iload_n rfl rfl ?_
      refine G_bipush rfl ?_
      refine G_icmp_ge rfl (fun h => ?_) (fun h => ?_)
      · skip
        refine G_iload_n rfl rfl ?_
        exact H_ret rfl rfl (rfl) (rfl)
      · exact absurd (by decide) h
    · have hlt : tAtP (S 2) (nI i) T < 2 ^ 31 := Nat.lt_of_le_of_lt (cnt_le _ _) (by omega)
      refine G_iload_n rfl rfl ?_
      refine G_bipush rfl ?_
      refine G_icmp_ge rfl (fun h => ?_) (fun h => ?_)
      · exact absurd h (ge_no hi (by decide))
      refine G_iload_n rfl rfl ?_
      refine G_aload_n rfl rfl ?_
      refine G_iload_n rfl rfl ?_
      refine H_callV (hm (nI i)) rfl rfl rfl rfl rfl rfl rfl rfl ?_
      refine G_if_ne rfl (fun h => ?_) (fun h => ?_)
      · skip
        refine G_iconst rfl ?_
        refine G_iadd rfl ?_
        refine H_ist_3_1 rfl rfl ?_
        refine H_inc_3_2 rfl rfl ?_
        refine G_goto rfl ?_
        have hz : decide (tAtP (S 2) (nI i) T = 0) = false := decide_eq_false (fun z => h ((nI_0iff hlt).mpr z))
        rw [show tBare (S 2) T (i + 1) = tBare (S 2) T i from cnt_f hz] at ih
        rw [nI_succ, ← Int32.add_zero (nI (tBare (S 2) T i))] at ih
        exact ih
      · skip
        refine G_iconst rfl ?_
        refine G_goto rfl ?_
        refine G_iadd rfl ?_
        refine H_ist_3_1 rfl rfl ?_
        refine H_inc_3_2 rfl rfl ?_
        refine G_goto rfl ?_
        have hz : decide (tAtP (S 2) (nI i) T = 0) = true := decide_eq_true ((nI_0iff hlt).mp (Decidable.of_not_not h))
        rw [show tBare (S 2) T (i + 1) = tBare (S 2) T i + 1 from cnt_t hz, nI_succ, nI_succ] at ih
        exact ih
  · refine EvM_mk [some (.ref _), none, none] rfl rfl rfl rfl rfl (trivial) ?_
    refine G_iconst rfl ?_
    refine H_ist_3_1 rfl rfl ?_
    refine G_iconst rfl ?_
    refine H_ist_3_2 rfl rfl ?_
    refine down 12 (fun i => Gm kTable_barePoints 4 [some (.ref 20), some (.int (nI (tBare (S 21) T i))), some (.int (nI i))] [] (S, PF R, 24) _ _) ?_ (fun i hi ih => ?_)
    · skip
      refine G_iload_n rfl rfl ?_
      refine G_bipush rfl ?_
      refine G_icmp_ge rfl (fun h => ?_) (fun h => ?_)
      · skip
        refine G_iload_n rfl rfl ?_
        exact H_ret rfl rfl (rfl) (rfl)
      · exact absurd (by decide) h
    · have hlt : tAtP (S 21) (nI i) T < 2 ^ 31 := Nat.lt_of_le_of_lt (cnt_le _ _) (by omega)
      refine G_iload_n rfl rfl ?_
      refine G_bipush rfl ?_
      refine G_icmp_ge rfl (fun h => ?_) (fun h => ?_)
      · exact absurd h (ge_no hi (by decide))
      refine G_iload_n rfl rfl ?_
      refine G_aload_n rfl rfl ?_
      refine G_iload_n rfl rfl ?_
      refine H_callV (hm (nI i)) rfl rfl rfl rfl rfl rfl rfl rfl ?_
      refine G_if_ne rfl (fun h => ?_) (fun h => ?_)
      · skip
        refine G_iconst rfl ?_
        refine G_iadd rfl ?_
        refine H_ist_3_1 rfl rfl ?_
        refine H_inc_3_2 rfl rfl ?_
        refine G_goto rfl ?_
        have hz : decide (tAtP (S 21) (nI i) T = 0) = false := decide_eq_false (fun z => h ((nI_0iff hlt).mpr z))
        rw [show tBare (S 21) T (i + 1) = tBare (S 21) T i from cnt_f hz] at ih
        rw [nI_succ, ← Int32.add_zero (nI (tBare (S 21) T i))] at ih
        exact ih
      · skip
        refine G_iconst rfl ?_
        refine G_goto rfl ?_
        refine G_iadd rfl ?_
        refine H_ist_3_1 rfl rfl ?_
        refine H_inc_3_2 rfl rfl ?_
        refine G_goto rfl ?_
        have hz : decide (tAtP (S 21) (nI i) T = 0) = true := decide_eq_true ((nI_0iff hlt).mp (Decidable.of_not_not h))
        rw [show tBare (S 21) T (i + 1) = tBare (S 21) T i + 1 from cnt_t hz, nI_succ, nI_succ] at ih
        exact ih
def tBareT (row : Nat → Int32) (n : Nat) : Nat := cnt (fun i => decide (tOf row (nI i) 12 = 0)) n
set_option maxRecDepth 100000 in
theorem ev_bareTapes {q w : Nat} (hq : TQ q w) (S : Nat → Nat → Int32) (R : Nat → Nat) {T : Nat} (hT : S w 96 = nI T) (hT8 : T ≤ 8) : EvM kTable_bareTapes [.ref q] (mk S R) (some (.int (nI (tBareT (S w) T)))) (mk S R) := by
  have hm := fun t => ev_readingsOf hq S R t
  have ht := ev_tapes hq S R
  rw [hT] at ht
  rcases hq with ⟨rfl, rfl⟩ | ⟨rfl, rfl⟩
  · refine EvM_mk [some (.ref _), none, none] rfl rfl rfl rfl rfl (trivial) ?_
    refine G_iconst rfl ?_
    refine H_ist_3_1 rfl rfl ?_
    refine G_iconst rfl ?_
    refine H_ist_3_2 rfl rfl ?_
    refine down T (fun i => Gm kTable_bareTapes 4 [some (.ref 1), some (.int (nI (tBareT (S 2) i))), some (.int (nI i))] [] (S, PF R, 24) _ _) ?_ (fun i hi ih => ?_)
    · skip
      refine G_iload_n rfl rfl ?_
      refine G_aload_n rfl rfl ?_
      refine H_callV (ht) rfl rfl rfl rfl rfl rfl rfl rfl ?_
      refine G_icmp_ge rfl (fun h => ?_) (fun h => ?_)
      · skip
        refine G_iload_n rfl rfl ?_
        exact H_ret rfl rfl (rfl) (rfl)
      · exact absurd (Int32.le_refl _) h
    · have hlt : tOf (S 2) (nI i) 12 < 2 ^ 31 := Nat.lt_of_le_of_lt (cnt_le _ _) (by decide)
      refine G_iload_n rfl rfl ?_
      refine G_aload_n rfl rfl ?_
      refine H_callV (ht) rfl rfl rfl rfl rfl rfl rfl rfl ?_
      refine G_icmp_ge rfl (fun h => ?_) (fun h => ?_)
      · exact absurd h (ge_no hi (by omega))
      refine G_iload_n rfl rfl ?_
      refine G_aload_n rfl rfl ?_
      refine G_iload_n rfl rfl ?_
      refine H_callV (hm (nI i)) rfl rfl rfl rfl rfl rfl rfl rfl ?_
      refine G_if_ne rfl (fun h => ?_) (fun h => ?_)
      · skip
        refine G_iconst rfl ?_
        refine G_iadd rfl ?_
        refine H_ist_3_1 rfl rfl ?_
        refine H_inc_3_2 rfl rfl ?_
        refine G_goto rfl ?_
        have hz : decide (tOf (S 2) (nI i) 12 = 0) = false := decide_eq_false (fun z => h ((nI_0iff hlt).mpr z))
        rw [show tBareT (S 2) (i + 1) = tBareT (S 2) i from cnt_f hz] at ih
        rw [nI_succ, ← Int32.add_zero (nI (tBareT (S 2) i))] at ih
        exact ih
      · skip
        refine G_iconst rfl ?_
        refine G_goto rfl ?_
        refine G_iadd rfl ?_
        refine H_ist_3_1 rfl rfl ?_
        refine H_inc_3_2 rfl rfl ?_
        refine G_goto rfl ?_
        have hz : decide (tOf (S 2) (nI i) 12 = 0) = true := decide_eq_true ((nI_0iff hlt).mp (Decidable.of_not_not h))
        rw [show tBareT (S 2) (i + 1) = tBareT (S 2) i + 1 from cnt_t hz, nI_succ, nI_succ] at ih
        exact ih
  · refine EvM_mk [some (.ref _), none, none] rfl rfl rfl rfl rfl (trivial) ?_
    refine G_iconst rfl ?_
    refine H_ist_3_1 rfl rfl ?_
    refine G_iconst rfl ?_
    refine H_ist_3_2 rfl rfl ?_
    refine down T (fun i => Gm kTable_bareTapes 4 [some (.ref 20), some (.int (nI (tBareT (S 21) i))), some (.int (nI i))] [] (S, PF R, 24) _ _) ?_ (fun i hi ih => ?_)
    · skip
      refine G_iload_n rfl rfl ?_
      refine G_aload_n rfl rfl ?_
      refine H_callV (ht) rfl rfl rfl rfl rfl rfl rfl rfl ?_
      refine G_icmp_ge rfl (fun h => ?_) (fun h => ?_)
      · skip
        refine G_iload_n rfl rfl ?_
        exact H_ret rfl rfl (rfl) (rfl)
      · exact absurd (Int32.le_refl _) h
    · have hlt : tOf (S 21) (nI i) 12 < 2 ^ 31 := Nat.lt_of_le_of_lt (cnt_le _ _) (by decide)
      refine G_iload_n rfl rfl ?_
      refine G_aload_n rfl rfl ?_
      refine H_callV (ht) rfl rfl rfl rfl rfl rfl rfl rfl ?_
      refine G_icmp_ge rfl (fun h => ?_) (fun h => ?_)
      · exact absurd h (ge_no hi (by omega))
      refine G_iload_n rfl rfl ?_
      refine G_aload_n rfl rfl ?_
      refine G_iload_n rfl rfl ?_
      refine H_callV (hm (nI i)) rfl rfl rfl rfl rfl rfl rfl rfl ?_
      refine G_if_ne rfl (fun h => ?_) (fun h => ?_)
      · skip
        refine G_iconst rfl ?_
        refine G_iadd rfl ?_
        refine H_ist_3_1 rfl rfl ?_
        refine H_inc_3_2 rfl rfl ?_
        refine G_goto rfl ?_
        have hz : decide (tOf (S 21) (nI i) 12 = 0) = false := decide_eq_false (fun z => h ((nI_0iff hlt).mpr z))
        rw [show tBareT (S 21) (i + 1) = tBareT (S 21) i from cnt_f hz] at ih
        rw [nI_succ, ← Int32.add_zero (nI (tBareT (S 21) i))] at ih
        exact ih
      · skip
        refine G_iconst rfl ?_
        refine G_goto rfl ?_
        refine G_iadd rfl ?_
        refine H_ist_3_1 rfl rfl ?_
        refine H_inc_3_2 rfl rfl ?_
        refine G_goto rfl ?_
        have hz : decide (tOf (S 21) (nI i) 12 = 0) = true := decide_eq_true ((nI_0iff hlt).mp (Decidable.of_not_not h))
        rw [show tBareT (S 21) (i + 1) = tBareT (S 21) i + 1 from cnt_t hz, nI_succ, nI_succ] at ih
        exact ih
/-- the best point of the first n, by a comparison; -4 if there is none -/
def tBest (row : Nat → Int32) (t : Int32) (lt : Int32 → Int32 → Bool) : Nat → Int32
  | 0 => -4
  | n + 1 => bif tHas row t (nI n) && (decide (tBest row t lt n = -4) || lt (tAt row t (nI n)) (tAt row t (tBest row t lt n))) then nI n else tBest row t lt n
def ltI (x y : Int32) : Bool := decide (¬ y ≤ x)
def gtI (x y : Int32) : Bool := decide (¬ x ≤ y)
set_option maxRecDepth 100000 in
theorem ev_pointOfLeast {q w : Nat} (hq : TQ q w) (S : Nat → Nat → Int32) (R : Nat → Nat) (t : Int32) : EvM kTable_pointOfLeast [.ref q, .int t] (mk S R) (some (.int (tBest (S w) t ltI 12))) (mk S R) := by
  have hm := fun p => ev_has hq S R t p
  have ha := fun p => ev_at hq S R t p
  rcases hq with ⟨rfl, rfl⟩ | ⟨rfl, rfl⟩
  · refine EvM_mk [some (.ref _), some (.int t), none, none] rfl rfl rfl rfl rfl (trivial) ?_
    refine G_bipush rfl ?_
    refine H_ist_4_2 rfl rfl ?_
    refine G_iconst rfl ?_
    refine H_ist_4_3 rfl rfl ?_
    refine down 12 (fun i => Gm kTable_pointOfLeast 5 [some (.ref 1), some (.int t), some (.int (tBest (S 2) t ltI i)), some (.int (nI i))] [] (S, PF R, 24) _ _) ?_ (fun i hi ih => ?_)
    · skip
      refine G_iload_n rfl rfl ?_
      refine G_bipush rfl ?_
      refine G_icmp_ge rfl (fun h => ?_) (fun h => ?_)
      · skip
        refine G_iload_n rfl rfl ?_
        exact H_ret rfl rfl (rfl) (rfl)
      · exact absurd (by decide) h
    · have keep : tBest (S 2) t ltI (i + 1) = tBest (S 2) t ltI i → Gm kTable_pointOfLeast 43 [some (.ref 1), some (.int t), some (.int (tBest (S 2) t ltI i)), some (.int (nI i))] [] (S, PF R, 24) (some (.int (tBest (S 2) t ltI 12))) (S, PF R, 24) := fun e => by
        refine H_inc_4_3 rfl rfl ?_
        refine G_goto rfl ?_
        rw [e, nI_succ] at ih
        exact ih
      have take : tBest (S 2) t ltI (i + 1) = nI i → Gm kTable_pointOfLeast 41 [some (.ref 1), some (.int t), some (.int (tBest (S 2) t ltI i)), some (.int (nI i))] [] (S, PF R, 24) (some (.int (tBest (S 2) t ltI 12))) (S, PF R, 24) := fun e => by
        refine G_iload_n rfl rfl ?_
        refine H_ist_4_2 rfl rfl ?_
        refine H_inc_4_3 rfl rfl ?_
        refine G_goto rfl ?_
        rw [e, nI_succ] at ih
        exact ih
      refine G_iload_n rfl rfl ?_
      refine G_bipush rfl ?_
      refine G_icmp_ge rfl (fun h => ?_) (fun h => ?_)
      · exact absurd h (ge_no hi (by decide))
      refine G_aload_n rfl rfl ?_
      refine G_iload_n rfl rfl ?_
      refine G_iload_n rfl rfl ?_
      refine H_callV (hm (nI i)) rfl rfl rfl rfl rfl rfl rfl rfl ?_
      refine G_if_eq rfl (fun h1 => ?_) (fun h1 => ?_)
      · exact keep (by simp [tBest, b2i_0.mp h1])
      have h1 := b2i_n0.mp h1
      refine G_iload_n rfl rfl ?_
      refine G_bipush rfl ?_
      refine G_icmp_eq rfl (fun h2 => ?_) (fun h2 => ?_)
      · exact take (by simp [tBest, h1, h2])
      refine G_aload_n rfl rfl ?_
      refine G_iload_n rfl rfl ?_
      refine G_iload_n rfl rfl ?_
      refine H_callV (ha (nI i)) rfl rfl rfl rfl rfl rfl rfl rfl ?_
      refine G_aload_n rfl rfl ?_
      refine G_iload_n rfl rfl ?_
      refine G_iload_n rfl rfl ?_
      refine H_callV (ha (tBest (S 2) t ltI i)) rfl rfl rfl rfl rfl rfl rfl rfl ?_
      refine G_icmp_ge rfl (fun h3 => ?_) (fun h3 => ?_)
      · exact keep (by simp [tBest, h1, h2, ltI, h3])
      · exact take (by simp [tBest, h1, h2, ltI, h3])
  · refine EvM_mk [some (.ref _), some (.int t), none, none] rfl rfl rfl rfl rfl (trivial) ?_
    refine G_bipush rfl ?_
    refine H_ist_4_2 rfl rfl ?_
    refine G_iconst rfl ?_
    refine H_ist_4_3 rfl rfl ?_
    refine down 12 (fun i => Gm kTable_pointOfLeast 5 [some (.ref 20), some (.int t), some (.int (tBest (S 21) t ltI i)), some (.int (nI i))] [] (S, PF R, 24) _ _) ?_ (fun i hi ih => ?_)
    · skip
      refine G_iload_n rfl rfl ?_
      refine G_bipush rfl ?_
      refine G_icmp_ge rfl (fun h => ?_) (fun h => ?_)
      · skip
        refine G_iload_n rfl rfl ?_
        exact H_ret rfl rfl (rfl) (rfl)
      · exact absurd (by decide) h
    · have keep : tBest (S 21) t ltI (i + 1) = tBest (S 21) t ltI i → Gm kTable_pointOfLeast 43 [some (.ref 20), some (.int t), some (.int (tBest (S 21) t ltI i)), some (.int (nI i))] [] (S, PF R, 24) (some (.int (tBest (S 21) t ltI 12))) (S, PF R, 24) := fun e => by
        refine H_inc_4_3 rfl rfl ?_
        refine G_goto rfl ?_
        rw [e, nI_succ] at ih
        exact ih
      have take : tBest (S 21) t ltI (i + 1) = nI i → Gm kTable_pointOfLeast 41 [some (.ref 20), some (.int t), some (.int (tBest (S 21) t ltI i)), some (.int (nI i))] [] (S, PF R, 24) (some (.int (tBest (S 21) t ltI 12))) (S, PF R, 24) := fun e => by
        refine G_iload_n rfl rfl ?_
        refine H_ist_4_2 rfl rfl ?_
        refine H_inc_4_3 rfl rfl ?_
        refine G_goto rfl ?_
        rw [e, nI_succ] at ih
        exact ih
      refine G_iload_n rfl rfl ?_
      refine G_bipush rfl ?_
      refine G_icmp_ge rfl (fun h => ?_) (fun h => ?_)
      · exact absurd h (ge_no hi (by decide))
      refine G_aload_n rfl rfl ?_
      refine G_iload_n rfl rfl ?_
      refine G_iload_n rfl rfl ?_
      refine H_callV (hm (nI i)) rfl rfl rfl rfl rfl rfl rfl rfl ?_
      refine G_if_eq rfl (fun h1 => ?_) (fun h1 => ?_)
      · exact keep (by simp [tBest, b2i_0.mp h1])
      have h1 := b2i_n0.mp h1
      refine G_iload_n rfl rfl ?_
      refine G_bipush rfl ?_
      refine G_icmp_eq rfl (fun h2 => ?_) (fun h2 => ?_)
      · exact take (by simp [tBest, h1, h2])
      refine G_aload_n rfl rfl ?_
      refine G_iload_n rfl rfl ?_
      refine G_iload_n rfl rfl ?_
      refine H_callV (ha (nI i)) rfl rfl rfl rfl rfl rfl rfl rfl ?_
      refine G_aload_n rfl rfl ?_
      refine G_iload_n rfl rfl ?_
      refine G_iload_n rfl rfl ?_
      refine H_callV (ha (tBest (S 21) t ltI i)) rfl rfl rfl rfl rfl rfl rfl rfl ?_
      refine G_icmp_ge rfl (fun h3 => ?_) (fun h3 => ?_)
      · exact keep (by simp [tBest, h1, h2, ltI, h3])
      · exact take (by simp [tBest, h1, h2, ltI, h3])
set_option maxRecDepth 100000 in
theorem ev_pointOfGreatest {q w : Nat} (hq : TQ q w) (S : Nat → Nat → Int32) (R : Nat → Nat) (t : Int32) : EvM kTable_pointOfGreatest [.ref q, .int t] (mk S R) (some (.int (tBest (S w) t gtI 12))) (mk S R) := by
  have hm := fun p => ev_has hq S R t p
  have ha := fun p => ev_at hq S R t p
  rcases hq with ⟨rfl, rfl⟩ | ⟨rfl, rfl⟩
  · refine EvM_mk [some (.ref _), some (.int t), none, none] rfl rfl rfl rfl rfl (trivial) ?_
    refine G_bipush rfl ?_
    refine H_ist_4_2 rfl rfl ?_
    refine G_iconst rfl ?_
    refine H_ist_4_3 rfl rfl ?_
    refine down 12 (fun i => Gm kTable_pointOfGreatest 5 [some (.ref 1), some (.int t), some (.int (tBest (S 2) t gtI i)), some (.int (nI i))] [] (S, PF R, 24) _ _) ?_ (fun i hi ih => ?_)
    · skip
      refine G_iload_n rfl rfl ?_
      refine G_bipush rfl ?_
      refine G_icmp_ge rfl (fun h => ?_) (fun h => ?_)
      · skip
        refine G_iload_n rfl rfl ?_
        exact H_ret rfl rfl (rfl) (rfl)
      · exact absurd (by decide) h
    · have keep : tBest (S 2) t gtI (i + 1) = tBest (S 2) t gtI i → Gm kTable_pointOfGreatest 43 [some (.ref 1), some (.int t), some (.int (tBest (S 2) t gtI i)), some (.int (nI i))] [] (S, PF R, 24) (some (.int (tBest (S 2) t gtI 12))) (S, PF R, 24) := fun e => by
        refine H_inc_4_3 rfl rfl ?_
        refine G_goto rfl ?_
        rw [e, nI_succ] at ih
        exact ih
      have take : tBest (S 2) t gtI (i + 1) = nI i → Gm kTable_pointOfGreatest 41 [some (.ref 1), some (.int t), some (.int (tBest (S 2) t gtI i)), some (.int (nI i))] [] (S, PF R, 24) (some (.int (tBest (S 2) t gtI 12))) (S, PF R, 24) := fun e => by
        refine G_iload_n rfl rfl ?_
        refine H_ist_4_2 rfl rfl ?_
        refine H_inc_4_3 rfl rfl ?_
        refine G_goto rfl ?_
        rw [e, nI_succ] at ih
        exact ih
      refine G_iload_n rfl rfl ?_
      refine G_bipush rfl ?_
      refine G_icmp_ge rfl (fun h => ?_) (fun h => ?_)
      · exact absurd h (ge_no hi (by decide))
      refine G_aload_n rfl rfl ?_
      refine G_iload_n rfl rfl ?_
      refine G_iload_n rfl rfl ?_
      refine H_callV (hm (nI i)) rfl rfl rfl rfl rfl rfl rfl rfl ?_
      refine G_if_eq rfl (fun h1 => ?_) (fun h1 => ?_)
      · exact keep (by simp [tBest, b2i_0.mp h1])
      have h1 := b2i_n0.mp h1
      refine G_iload_n rfl rfl ?_
      refine G_bipush rfl ?_
      refine G_icmp_eq rfl (fun h2 => ?_) (fun h2 => ?_)
      · exact take (by simp [tBest, h1, h2])
      refine G_aload_n rfl rfl ?_
      refine G_iload_n rfl rfl ?_
      refine G_iload_n rfl rfl ?_
      refine H_callV (ha (nI i)) rfl rfl rfl rfl rfl rfl rfl rfl ?_
      refine G_aload_n rfl rfl ?_
      refine G_iload_n rfl rfl ?_
      refine G_iload_n rfl rfl ?_
      refine H_callV (ha (tBest (S 2) t gtI i)) rfl rfl rfl rfl rfl rfl rfl rfl ?_
      refine G_icmp_le rfl (fun h3 => ?_) (fun h3 => ?_)
      · exact keep (by simp [tBest, h1, h2, gtI, h3])
      · exact take (by simp [tBest, h1, h2, gtI, h3])
  · refine EvM_mk [some (.ref _), some (.int t), none, none] rfl rfl rfl rfl rfl (trivial) ?_
    refine G_bipush rfl ?_
    refine H_ist_4_2 rfl rfl ?_
    refine G_iconst rfl ?_
    refine H_ist_4_3 rfl rfl ?_
    refine down 12 (fun i => Gm kTable_pointOfGreatest 5 [some (.ref 20), some (.int t), some (.int (tBest (S 21) t gtI i)), some (.int (nI i))] [] (S, PF R, 24) _ _) ?_ (fun i hi ih => ?_)
    · skip
      refine G_iload_n rfl rfl ?_
      refine G_bipush rfl ?_
      refine G_icmp_ge rfl (fun h => ?_) (fun h => ?_)
      · skip
        refine G_iload_n rfl rfl ?_
        exact H_ret rfl rfl (rfl) (rfl)
      · exact absurd (by decide) h
    · have keep : tBest (S 21) t gtI (i + 1) = tBest (S 21) t gtI i → Gm kTable_pointOfGreatest 43 [some (.ref 20), some (.int t), some (.int (tBest (S 21) t gtI i)), some (.int (nI i))] [] (S, PF R, 24) (some (.int (tBest (S 21) t gtI 12))) (S, PF R, 24) := fun e => by
        refine H_inc_4_3 rfl rfl ?_
        refine G_goto rfl ?_
        rw [e, nI_succ] at ih
        exact ih
      have take : tBest (S 21) t gtI (i + 1) = nI i → Gm kTable_pointOfGreatest 41 [some (.ref 20), some (.int t), some (.int (tBest (S 21) t gtI i)), some (.int (nI i))] [] (S, PF R, 24) (some (.int (tBest (S 21) t gtI 12))) (S, PF R, 24) := fun e => by
        refine G_iload_n rfl rfl ?_
        refine H_ist_4_2 rfl rfl ?_
        refine H_inc_4_3 rfl rfl ?_
        refine G_goto rfl ?_
        rw [e, nI_succ] at ih
        exact ih
      refine G_iload_n rfl rfl ?_
      refine G_bipush rfl ?_
      refine G_icmp_ge rfl (fun h => ?_) (fun h => ?_)
      · exact absurd h (ge_no hi (by decide))
      refine G_aload_n rfl rfl ?_
      refine G_iload_n rfl rfl ?_
      refine G_iload_n rfl rfl ?_
      refine H_callV (hm (nI i)) rfl rfl rfl rfl rfl rfl rfl rfl ?_
      refine G_if_eq rfl (fun h1 => ?_) (fun h1 => ?_)
      · exact keep (by simp [tBest, b2i_0.mp h1])
      have h1 := b2i_n0.mp h1
      refine G_iload_n rfl rfl ?_
      refine G_bipush rfl ?_
      refine G_icmp_eq rfl (fun h2 => ?_) (fun h2 => ?_)
      · exact take (by simp [tBest, h1, h2])
      refine G_aload_n rfl rfl ?_
      refine G_iload_n rfl rfl ?_
      refine G_iload_n rfl rfl ?_
      refine H_callV (ha (nI i)) rfl rfl rfl rfl rfl rfl rfl rfl ?_
      refine G_aload_n rfl rfl ?_
      refine G_iload_n rfl rfl ?_
      refine G_iload_n rfl rfl ?_
      refine H_callV (ha (tBest (S 21) t gtI i)) rfl rfl rfl rfl rfl rfl rfl rfl ?_
      refine G_icmp_le rfl (fun h3 => ?_) (fun h3 => ?_)
      · exact keep (by simp [tBest, h1, h2, gtI, h3])
      · exact take (by simp [tBest, h1, h2, gtI, h3])
set_option maxRecDepth 100000 in
theorem ev_spread {q w : Nat} (hq : TQ q w) (S : Nat → Nat → Int32) (R : Nat → Nat) (t : Int32) : EvM kTable_spread [.ref q, .int t] (mk S R) (some (.int (tAt (S w) t (tBest (S w) t gtI 12) - tAt (S w) t (tBest (S w) t ltI 12)))) (mk S R) := by
  have h1 := ev_pointOfGreatest hq S R t
  have h2 := ev_pointOfLeast hq S R t
  have ha := fun p => ev_at hq S R t p
  rcases hq with ⟨rfl, rfl⟩ | ⟨rfl, rfl⟩
  · refine EvM_mk [some (.ref _), some (.int t)] rfl rfl rfl rfl rfl (trivial) ?_
    refine G_aload_n rfl rfl ?_
    refine G_iload_n rfl rfl ?_
    refine G_aload_n rfl rfl ?_
    refine G_iload_n rfl rfl ?_
    refine H_callV (h1) rfl rfl rfl rfl rfl rfl rfl rfl ?_
    refine H_callV (ha (tBest (S 2) t gtI 12)) rfl rfl rfl rfl rfl rfl rfl rfl ?_
    refine G_aload_n rfl rfl ?_
    refine G_iload_n rfl rfl ?_
    refine G_aload_n rfl rfl ?_
    refine G_iload_n rfl rfl ?_
    refine H_callV (h2) rfl rfl rfl rfl rfl rfl rfl rfl ?_
    refine H_callV (ha (tBest (S 2) t ltI 12)) rfl rfl rfl rfl rfl rfl rfl rfl ?_
    refine G_isub rfl ?_
    exact H_ret rfl rfl (rfl) (rfl)
  · refine EvM_mk [some (.ref _), some (.int t)] rfl rfl rfl rfl rfl (trivial) ?_
    refine G_aload_n rfl rfl ?_
    refine G_iload_n rfl rfl ?_
    refine G_aload_n rfl rfl ?_
    refine G_iload_n rfl rfl ?_
    refine H_callV (h1) rfl rfl rfl rfl rfl rfl rfl rfl ?_
    refine H_callV (ha (tBest (S 21) t gtI 12)) rfl rfl rfl rfl rfl rfl rfl rfl ?_
    refine G_aload_n rfl rfl ?_
    refine G_iload_n rfl rfl ?_
    refine G_aload_n rfl rfl ?_
    refine G_iload_n rfl rfl ?_
    refine H_callV (h2) rfl rfl rfl rfl rfl rfl rfl rfl ?_
    refine H_callV (ha (tBest (S 21) t ltI 12)) rfl rfl rfl rfl rfl rfl rfl rfl ?_
    refine G_isub rfl ?_
    exact H_ret rfl rfl (rfl) (rfl)
set_option maxRecDepth 100000 in
theorem ev_tally {q w : Nat} (hq : TQ q w) (S : Nat → Nat → Int32) (R : Nat → Nat) {j : Nat} (h1 : 97 ≤ j) (h2 : j < 101) : EvM kTable_tally [.ref q, .int (nI j)] (mk S R) none (mk (u2 S w (upd (S w) j (S w j + 1))) R) := by
  rcases hq with ⟨rfl, rfl⟩ | ⟨rfl, rfl⟩
  · refine EvM_mk [some (.ref _), some (.int (nI j))] rfl rfl rfl rfl rfl (trivial) ?_
    refine G_iload_n rfl rfl ?_
    refine G_bipush rfl ?_
    refine G_icmp_lt rfl (fun h => ?_) (fun h => ?_)
    · exact absurd h (nI_nlt (a := j) (b := 97) h1 (by omega))
    refine G_iload_n rfl rfl ?_
    refine G_bipush rfl ?_
    refine G_icmp_ge rfl (fun h => ?_) (fun h => ?_)
    · exact absurd h (ge_no (n := 101) h2 (by decide))
    refine G_aload_n rfl rfl ?_
    refine H_getR rfl rfl rfl rfl rfl rfl ?_
    refine G_iload_n rfl rfl ?_
    refine G_dup2 rfl rfl rfl ?_
    refine H_iald rfl (rfl) (rfl) (h2) (rfl) ?_
    refine G_iconst rfl ?_
    refine G_iadd rfl ?_
    refine H_iast rfl (rfl) (rfl) (h2) (rfl) ?_
    exact H_retv rfl rfl (rfl)
  · refine EvM_mk [some (.ref _), some (.int (nI j))] rfl rfl rfl rfl rfl (trivial) ?_
    refine G_iload_n rfl rfl ?_
    refine G_bipush rfl ?_
    refine G_icmp_lt rfl (fun h => ?_) (fun h => ?_)
    · exact absurd h (nI_nlt (a := j) (b := 97) h1 (by omega))
    refine G_iload_n rfl rfl ?_
    refine G_bipush rfl ?_
    refine G_icmp_ge rfl (fun h => ?_) (fun h => ?_)
    · exact absurd h (ge_no (n := 101) h2 (by decide))
    refine G_aload_n rfl rfl ?_
    refine H_getR rfl rfl rfl rfl rfl rfl ?_
    refine G_iload_n rfl rfl ?_
    refine G_dup2 rfl rfl rfl ?_
    refine H_iald rfl (rfl) (rfl) (h2) (rfl) ?_
    refine G_iconst rfl ?_
    refine G_iadd rfl ?_
    refine H_iast rfl (rfl) (rfl) (h2) (rfl) ?_
    exact H_retv rfl rfl (rfl)
set_option maxRecDepth 100000 in
theorem ev_tallied {q w : Nat} (hq : TQ q w) (S : Nat → Nat → Int32) (R : Nat → Nat) {j : Nat} (h1 : 97 ≤ j) (h2 : j < 101) : EvM kTable_tallied [.ref q, .int (nI j)] (mk S R) (some (.int (S w j))) (mk S R) := by
  rcases hq with ⟨rfl, rfl⟩ | ⟨rfl, rfl⟩
  · refine EvM_mk [some (.ref _), some (.int (nI j))] rfl rfl rfl rfl rfl (trivial) ?_
    refine G_iload_n rfl rfl ?_
    refine G_bipush rfl ?_
    refine G_icmp_lt rfl (fun h => ?_) (fun h => ?_)
    · exact absurd h (nI_nlt (a := j) (b := 97) h1 (by omega))
    refine G_iload_n rfl rfl ?_
    refine G_bipush rfl ?_
    refine G_icmp_ge rfl (fun h => ?_) (fun h => ?_)
    · exact absurd h (ge_no (n := 101) h2 (by decide))
    refine G_aload_n rfl rfl ?_
    refine H_getR rfl rfl rfl rfl rfl rfl ?_
    refine G_iload_n rfl rfl ?_
    refine H_iald rfl (rfl) (rfl) (h2) (rfl) ?_
    refine G_goto rfl ?_
    exact H_ret rfl rfl (rfl) (rfl)
  · refine EvM_mk [some (.ref _), some (.int (nI j))] rfl rfl rfl rfl rfl (trivial) ?_
    refine G_iload_n rfl rfl ?_
    refine G_bipush rfl ?_
    refine G_icmp_lt rfl (fun h => ?_) (fun h => ?_)
    · exact absurd h (nI_nlt (a := j) (b := 97) h1 (by omega))
    refine G_iload_n rfl rfl ?_
    refine G_bipush rfl ?_
    refine G_icmp_ge rfl (fun h => ?_) (fun h => ?_)
    · exact absurd h (ge_no (n := 101) h2 (by decide))
    refine G_aload_n rfl rfl ?_
    refine H_getR rfl rfl rfl rfl rfl rfl ?_
    refine G_iload_n rfl rfl ?_
    refine H_iald rfl (rfl) (rfl) (h2) (rfl) ?_
    refine G_goto rfl ?_
    exact H_ret rfl rfl (rfl) (rfl)
/-- the first n cells of one row over another's -/
def cpy (f g : Nat → Int32) (n : Nat) : Nat → Int32 := fun j => if j < n then f j else g j
theorem cpy_0 {f g : Nat → Int32} : cpy f g 0 = g := by
  funext j
  simp [cpy]
theorem cpy_s {f g : Nat → Int32} {n : Nat} : upd (cpy f g n) n (f n) = cpy f g (n + 1) := by
  funext j
  by_cases h : j = n
  · subst h; simp [upd, cpy]
  · simp only [upd, h, if_false, cpy]
    by_cases h2 : j < n
    · rw [if_pos h2, if_pos (by omega)]
    · rw [if_neg h2, if_neg (by omega)]
set_option maxRecDepth 100000 in
theorem ev_copyTo {q w : Nat} (hq : TQ q w) (S : Nat → Nat → Int32) (R : Nat → Nat) {o : Nat} (ho : o ≠ w) (hK : KT o = (0, 101)) (ho2 : Nat.blt o 24 = true) : EvM kTable_copyTo [.ref q, .ref o] (mk S R) none (mk (u2 S o (cpy (S w) (S o) 101)) R) := by
  rcases hq with ⟨rfl, rfl⟩ | ⟨rfl, rfl⟩
  · refine EvM_mk [some (.ref _), some (.ref o), none] rfl rfl rfl rfl rfl (trivial) ?_
    refine G_iconst rfl ?_
    refine H_ist_3_2 rfl rfl ?_
    have goal : Gm kTable_copyTo 2 [some (.ref 1), some (.ref o), some (.int (nI 0))] [] (u2 S o (cpy (S 2) (S o) 0), PF R, 24) none (u2 S o (cpy (S 2) (S o) 101), PF R, 24) := by
      refine down 101 (fun i => Gm kTable_copyTo 2 [some (.ref 1), some (.ref o), some (.int (nI i))] [] (u2 S o (cpy (S 2) (S o) i), PF R, 24) _ _) ?_ (fun i hi ih => ?_)
      · skip
        refine G_iload_n rfl rfl ?_
        refine G_bipush rfl ?_
        refine G_icmp_ge rfl (fun h => ?_) (fun h => ?_)
        · skip
          exact H_retv rfl rfl (rfl)
        · exact absurd (by decide) h
      · skip
        refine G_iload_n rfl rfl ?_
        refine G_bipush rfl ?_
        refine G_icmp_ge rfl (fun h => ?_) (fun h => ?_)
        · exact absurd h (ge_no hi (by decide))
        refine G_iload_n rfl rfl ?_
        refine G_aload_n rfl rfl ?_
        refine G_alen rfl (hK) (ho2) ?_
        refine G_icmp_ge rfl (fun h => ?_) (fun h => ?_)
        · exact absurd h (ge_no hi (by decide))
        refine G_aload_n rfl rfl ?_
        refine G_iload_n rfl rfl ?_
        refine G_aload_n rfl rfl ?_
        refine H_getR rfl rfl rfl rfl rfl rfl ?_
        refine G_iload_n rfl rfl ?_
        refine H_iald rfl (rfl) (rfl) (hi) (rfl) ?_
        refine H_iast rfl (rfl) (hK) (hi) (ho2) ?_
        refine H_inc_3_2 rfl rfl ?_
        refine G_goto rfl ?_
        rw [u2_ne (Ne.symm ho), u2_same, u2_u2, cpy_s]
        rw [nI_succ] at ih
        exact ih
    rw [cpy_0, u2_self] at goal
    exact goal
  · refine EvM_mk [some (.ref _), some (.ref o), none] rfl rfl rfl rfl rfl (trivial) ?_
    refine G_iconst rfl ?_
    refine H_ist_3_2 rfl rfl ?_
    have goal : Gm kTable_copyTo 2 [some (.ref 20), some (.ref o), some (.int (nI 0))] [] (u2 S o (cpy (S 21) (S o) 0), PF R, 24) none (u2 S o (cpy (S 21) (S o) 101), PF R, 24) := by
      refine down 101 (fun i => Gm kTable_copyTo 2 [some (.ref 20), some (.ref o), some (.int (nI i))] [] (u2 S o (cpy (S 21) (S o) i), PF R, 24) _ _) ?_ (fun i hi ih => ?_)
      · skip
        refine G_iload_n rfl rfl ?_
        refine G_bipush rfl ?_
        refine G_icmp_ge rfl (fun h => ?_) (fun h => ?_)
        · skip
          exact H_retv rfl rfl (rfl)
        · exact absurd (by decide) h
      · skip
        refine G_iload_n rfl rfl ?_
        refine G_bipush rfl ?_
        refine G_icmp_ge rfl (fun h => ?_) (fun h => ?_)
        · exact absurd h (ge_no hi (by decide))
        refine G_iload_n rfl rfl ?_
        refine G_aload_n rfl rfl ?_
        refine G_alen rfl (hK) (ho2) ?_
        refine G_icmp_ge rfl (fun h => ?_) (fun h => ?_)
        · exact absurd h (ge_no hi (by decide))
        refine G_aload_n rfl rfl ?_
        refine G_iload_n rfl rfl ?_
        refine G_aload_n rfl rfl ?_
        refine H_getR rfl rfl rfl rfl rfl rfl ?_
        refine G_iload_n rfl rfl ?_
        refine H_iald rfl (rfl) (rfl) (hi) (rfl) ?_
        refine H_iast rfl (rfl) (hK) (hi) (ho2) ?_
        refine H_inc_3_2 rfl rfl ?_
        refine G_goto rfl ?_
        rw [u2_ne (Ne.symm ho), u2_same, u2_u2, cpy_s]
        rw [nI_succ] at ih
        exact ih
    rw [cpy_0, u2_self] at goal
    exact goal
set_option maxRecDepth 100000 in
theorem ev_copyFrom {q w : Nat} (hq : TQ q w) (S : Nat → Nat → Int32) (R : Nat → Nat) {o : Nat} (ho : o ≠ w) (hK : KT o = (0, 101)) (ho2 : Nat.blt o 24 = true) : EvM kTable_copyFrom [.ref q, .ref o] (mk S R) none (mk (u2 S w (cpy (S o) (S w) 101)) R) := by
  rcases hq with ⟨rfl, rfl⟩ | ⟨rfl, rfl⟩
  · refine EvM_mk [some (.ref _), some (.ref o), none] rfl rfl rfl rfl rfl (trivial) ?_
    refine G_iconst rfl ?_
    refine H_ist_3_2 rfl rfl ?_
    have goal : Gm kTable_copyFrom 2 [some (.ref 1), some (.ref o), some (.int (nI 0))] [] (u2 S 2 (cpy (S o) (S 2) 0), PF R, 24) none (u2 S 2 (cpy (S o) (S 2) 101), PF R, 24) := by
      refine down 101 (fun i => Gm kTable_copyFrom 2 [some (.ref 1), some (.ref o), some (.int (nI i))] [] (u2 S 2 (cpy (S o) (S 2) i), PF R, 24) _ _) ?_ (fun i hi ih => ?_)
      · skip
        refine G_iload_n rfl rfl ?_
        refine G_bipush rfl ?_
        refine G_icmp_ge rfl (fun h => ?_) (fun h => ?_)
        · skip
          exact H_retv rfl rfl (rfl)
        · exact absurd (by decide) h
      · skip
        refine G_iload_n rfl rfl ?_
        refine G_bipush rfl ?_
        refine G_icmp_ge rfl (fun h => ?_) (fun h => ?_)
        · exact absurd h (ge_no hi (by decide))
        refine G_iload_n rfl rfl ?_
        refine G_aload_n rfl rfl ?_
        refine G_alen rfl (hK) (ho2) ?_
        refine G_icmp_ge rfl (fun h => ?_) (fun h => ?_)
        · exact absurd h (ge_no hi (by decide))
        refine G_aload_n rfl rfl ?_
        refine H_getR rfl rfl rfl rfl rfl rfl ?_
        refine G_iload_n rfl rfl ?_
        refine G_aload_n rfl rfl ?_
        refine G_iload_n rfl rfl ?_
        refine H_iald rfl (rfl) (hK) (hi) (ho2) ?_
        refine H_iast rfl (rfl) (rfl) (hi) (rfl) ?_
        refine H_inc_3_2 rfl rfl ?_
        refine G_goto rfl ?_
        rw [u2_ne ho, u2_same, u2_u2, cpy_s]
        rw [nI_succ] at ih
        exact ih
    rw [cpy_0, u2_self] at goal
    exact goal
  · refine EvM_mk [some (.ref _), some (.ref o), none] rfl rfl rfl rfl rfl (trivial) ?_
    refine G_iconst rfl ?_
    refine H_ist_3_2 rfl rfl ?_
    have goal : Gm kTable_copyFrom 2 [some (.ref 20), some (.ref o), some (.int (nI 0))] [] (u2 S 21 (cpy (S o) (S 21) 0), PF R, 24) none (u2 S 21 (cpy (S o) (S 21) 101), PF R, 24) := by
      refine down 101 (fun i => Gm kTable_copyFrom 2 [some (.ref 20), some (.ref o), some (.int (nI i))] [] (u2 S 21 (cpy (S o) (S 21) i), PF R, 24) _ _) ?_ (fun i hi ih => ?_)
      · skip
        refine G_iload_n rfl rfl ?_
        refine G_bipush rfl ?_
        refine G_icmp_ge rfl (fun h => ?_) (fun h => ?_)
        · skip
          exact H_retv rfl rfl (rfl)
        · exact absurd (by decide) h
      · skip
        refine G_iload_n rfl rfl ?_
        refine G_bipush rfl ?_
        refine G_icmp_ge rfl (fun h => ?_) (fun h => ?_)
        · exact absurd h (ge_no hi (by decide))
        refine G_iload_n rfl rfl ?_
        refine G_aload_n rfl rfl ?_
        refine G_alen rfl (hK) (ho2) ?_
        refine G_icmp_ge rfl (fun h => ?_) (fun h => ?_)
        · exact absurd h (ge_no hi (by decide))
        refine G_aload_n rfl rfl ?_
        refine H_getR rfl rfl rfl rfl rfl rfl ?_
        refine G_iload_n rfl rfl ?_
        refine G_aload_n rfl rfl ?_
        refine G_iload_n rfl rfl ?_
        refine H_iald rfl (rfl) (hK) (hi) (ho2) ?_
        refine H_iast rfl (rfl) (rfl) (hi) (rfl) ?_
        refine H_inc_3_2 rfl rfl ?_
        refine G_goto rfl ?_
        rw [u2_ne ho, u2_same, u2_u2, cpy_s]
        rw [nI_succ] at ih
        exact ih
    rw [cpy_0, u2_self] at goal
    exact goal
/-- the later tapes take the places ahead of them: the first m cells done -/
def rmR (row : Nat → Int32) (a m : Nat) : Nat → Int32 := fun j => if a * 12 ≤ j ∧ j < m then (if j < 84 then row (j + 12) else NONE) else row j
def tRem (row : Nat → Int32) (a : Nat) : Nat → Int32 := upd (rmR row a 96) 96 (row 96 - 1)
theorem rmR_0 {row : Nat → Int32} {a : Nat} : rmR row a (a * 12) = row := by
  funext j
  simp only [rmR]
  rw [if_neg (by omega)]
theorem rmR_s {row : Nat → Int32} {a m : Nat} (h : a * 12 ≤ m) : upd (rmR row a m) m (if m < 84 then row (m + 12) else NONE) = rmR row a (m + 1) := by
  funext j
  by_cases e : j = m
  · subst e
    simp only [upd, if_true, rmR]
    rw [if_pos (show a * 12 ≤ j ∧ j < j + 1 by omega)]
  · simp only [upd, e, if_false, rmR]
    by_cases h1 : a * 12 ≤ j ∧ j < m
    · rw [if_pos h1, if_pos (show a * 12 ≤ j ∧ j < m + 1 by omega)]
    · rw [if_neg h1, if_neg (by omega)]
theorem rmR_at {row : Nat → Int32} {a pl p : Nat} (hp : p < 12) (hpl : pl < 8) : tAt (rmR row a (pl * 12 + p)) (nI pl + 1) (nI p) = if pl * 12 + p < 84 then row (pl * 12 + p + 12) else NONE := by
  rw [← nI_succ]
  by_cases h : pl + 1 < 8
  · rw [tAt_nI h hp, if_pos (by omega)]
    simp only [rmR]
    rw [if_neg (by omega)]
    congr 1
    omega
  · rw [if_neg (by omega), tAt_out]
    have : ¬ (¬ nI 8 ≤ nI (pl + 1)) := fun q => q (nI_le (by omega) (by omega))
    simp only [tIn, Bool.and_eq_false_iff, decide_eq_false_iff_not]
    exact Or.inl (Or.inl (Or.inr this))
set_option maxRecDepth 100000 in
theorem ev_remove (S : Nat → Nat → Int32) (R : Nat → Nat) {a : Nat} (ha : a < 8) : EvM kTable_remove [.ref 1, .int (nI a)] (mk S R) none (mk (u2 S 2 (tRem (S 2) a)) R) := by
  have hq : TQ 1 2 := Or.inl ⟨rfl, rfl⟩
  refine EvM_mk [some (.ref 1), some (.int (nI a)), none, none] rfl rfl rfl rfl rfl (trivial) ?_
  refine G_iload_n rfl rfl ?_
  refine H_ist_4_2 rfl rfl ?_
  have goal : ∀ l3 : Option Value, Gm kTable_remove 2 [some (.ref 1), some (.int (nI a)), some (.int (nI a)), l3] [] (u2 S 2 (rmR (S 2) a (a * 12)), PF R, 24) none (u2 S 2 (tRem (S 2) a), PF R, 24) := by
    refine fun l3 => down_from 8 (fun i => ∀ l3 : Option Value, a ≤ i → Gm kTable_remove 2 [some (.ref 1), some (.int (nI a)), some (.int (nI i)), l3] [] (u2 S 2 (rmR (S 2) a (i * 12)), PF R, 24) _ _) (fun l3 _ => ?_) (fun i hi ih l3 hai => ?_) a (by omega) l3 (Nat.le_refl a)
    · skip
      refine G_iload_n rfl rfl ?_
      refine G_bipush rfl ?_
      refine G_icmp_ge rfl (fun h => ?_) (fun h => ?_)
      · skip
        refine G_aload_n rfl rfl ?_
        refine H_getR rfl rfl rfl rfl rfl rfl ?_
        refine G_bipush rfl ?_
        refine G_dup2 rfl rfl rfl ?_
        refine H_iald rfl ((show (96 : Int32) = nI 96 from rfl)) (rfl) ((by decide)) (rfl) ?_
        refine G_iconst rfl ?_
        refine G_isub rfl ?_
        refine H_iast rfl ((show (96 : Int32) = nI 96 from rfl)) (rfl) ((by decide)) (rfl) ?_
        exact H_retv rfl rfl ((by rw [u2_same, u2_u2]; simp [tRem, rmR]))
      · exact absurd (by decide) h
    · skip
      refine G_iload_n rfl rfl ?_
      refine G_bipush rfl ?_
      refine G_icmp_ge rfl (fun h => ?_) (fun h => ?_)
      · exact absurd h (ge_no hi (by decide))
      refine G_iconst rfl ?_
      refine H_ist_4_3 rfl rfl ?_
      refine down 12 (fun p => Gm kTable_remove 10 [some (.ref 1), some (.int (nI a)), some (.int (nI i)), some (.int (nI p))] [] (u2 S 2 (rmR (S 2) a (i * 12 + p)), PF R, 24) _ _) ?_ (fun p hp ih2 => ?_)
      · skip
        refine G_iload_n rfl rfl ?_
        refine G_bipush rfl ?_
        refine G_icmp_ge rfl (fun h => ?_) (fun h => ?_)
        · skip
          refine H_inc_4_2 rfl rfl ?_
          refine G_goto rfl ?_
          have := ih (some (.int (nI 12))) (by omega)
          rw [nI_succ, show (i + 1) * 12 = i * 12 + 12 by omega] at this
          exact this
        · exact absurd (by decide) h
      · skip
        refine G_iload_n rfl rfl ?_
        refine G_bipush rfl ?_
        refine G_icmp_ge rfl (fun h => ?_) (fun h => ?_)
        · exact absurd h (ge_no hp (by decide))
        refine G_aload_n rfl rfl ?_
        refine G_iload_n rfl rfl ?_
        refine G_iload_n rfl rfl ?_
        refine G_aload_n rfl rfl ?_
        refine G_iload_n rfl rfl ?_
        refine G_iconst rfl ?_
        refine G_iadd rfl ?_
        refine G_iload_n rfl rfl ?_
        refine H_callV (ev_at hq (u2 S 2 (rmR (S 2) a (i * 12 + p))) R (nI i + 1) (nI p)) rfl rfl rfl rfl rfl rfl rfl rfl ?_
        refine H_callU (ev_put hq (u2 S 2 (rmR (S 2) a (i * 12 + p))) R (nI i) (nI p) (tAt (u2 S 2 (rmR (S 2) a (i * 12 + p)) 2) (nI i + 1) (nI p))) rfl rfl rfl rfl rfl rfl rfl rfl ?_
        refine H_inc_4_3 rfl rfl ?_
        refine G_goto rfl ?_
        rw [u2_u2, u2_same, tPut_nI hi hp, rmR_at hp hi, rmR_s (by omega), ← nI_succ]
        exact ih2
  rw [rmR_0, u2_self] at goal
  exact goal none
