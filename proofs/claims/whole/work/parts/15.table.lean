/-! the contracts of a table: q is the object, w its row -/
def NONE : Int32 := 1000000
def TQ (q w : Nat) : Prop := (q = 1 ∧ w = 2) ∨ (q = 20 ∧ w = 21)
def tIn (t p : Int32) : Bool := decide (¬ t < 0) && decide (¬ 8 ≤ t) && decide (¬ p < 0) && decide (¬ 12 ≤ p)
def tAt (row : Nat → Int32) (t p : Int32) : Int32 := bif tIn t p then row (t * 12 + p).toNatClampNeg else NONE
theorem tIn_ix {t p : Int32} (h : tIn t p = true) : ∃ a b, a < 8 ∧ b < 12 ∧ t = nI a ∧ p = nI b := by
  simp only [tIn, Bool.and_eq_true, decide_eq_true_eq] at h
  obtain ⟨a, ha, ea⟩ := lt_ix 8 (by decide) h.1.1.1 h.1.1.2
  obtain ⟨b, hb, eb⟩ := lt_ix 12 (by decide) h.1.2 h.2
  exact ⟨a, b, ha, hb, ea, eb⟩
theorem tp_nI (a b : Nat) : nI a * 12 + nI b = nI (a * 12 + b) := by
  rw [← nI_add, ← pk_mul]
  rfl
theorem tIn_nI {a b : Nat} (ha : a < 8) (hb : b < 12) : tIn (nI a) (nI b) = true := by
  simp only [tIn, Bool.and_eq_true, decide_eq_true_eq]
  exact ⟨⟨⟨nI_pos (by omega), ge_no (n := 8) ha (by decide)⟩, nI_pos (by omega)⟩, ge_no (n := 12) hb (by decide)⟩
theorem tAt_nI {row : Nat → Int32} {a b : Nat} (ha : a < 8) (hb : b < 12) : tAt row (nI a) (nI b) = row (a * 12 + b) := by
  rw [tAt, tIn_nI ha hb, cond_true, tp_nI, nI_clamp (by omega)]
theorem tAt_out {row : Nat → Int32} {t p : Int32} (h : tIn t p = false) : tAt row t p = NONE := by rw [tAt, h, cond_false]
set_option maxRecDepth 100000 in
theorem ev_tapes {q w : Nat} (hq : TQ q w) (S : Nat → Nat → Int32) (R : Nat → Nat) : EvM kTable_tapes [.ref q] (mk S R) (some (.int (S w 96))) (mk S R) := by
  rcases hq with ⟨rfl, rfl⟩ | ⟨rfl, rfl⟩
  · refine EvM_mk [some (.ref _)] rfl rfl rfl rfl rfl (trivial) ?_
    refine G_aload_n rfl rfl ?_
    refine H_getR rfl rfl rfl rfl rfl rfl ?_
    refine G_bipush rfl ?_
    refine H_iald rfl ((show (96 : Int32) = nI 96 from rfl)) rfl ((by decide)) rfl ?_
    exact H_ret rfl rfl (rfl) (rfl)
  · refine EvM_mk [some (.ref _)] rfl rfl rfl rfl rfl (trivial) ?_
    refine G_aload_n rfl rfl ?_
    refine H_getR rfl rfl rfl rfl rfl rfl ?_
    refine G_bipush rfl ?_
    refine H_iald rfl ((show (96 : Int32) = nI 96 from rfl)) rfl ((by decide)) rfl ?_
    exact H_ret rfl rfl (rfl) (rfl)
def tIs (row : Nat → Int32) (t : Int32) : Bool := decide (¬ t < 0) && decide (¬ row 96 ≤ t)
set_option maxRecDepth 100000 in
theorem ev_isTape {q w : Nat} (hq : TQ q w) (S : Nat → Nat → Int32) (R : Nat → Nat) (t : Int32) : EvM kTable_isTape [.ref q, .int t] (mk S R) (some (.int (b2i (tIs (S w) t)))) (mk S R) := by
  rcases hq with ⟨rfl, rfl⟩ | ⟨rfl, rfl⟩
  · refine EvM_mk [some (.ref _), some (.int t)] rfl rfl rfl rfl rfl (okb _) ?_
    refine G_iload_n rfl rfl ?_
    refine G_if_lt rfl (fun h1 => ?_) (fun h1 => ?_)
    · skip
      refine G_iconst rfl ?_
      exact H_ret rfl rfl ((by simp [tIs, h1, b2i])) (rfl)
    refine G_iload_n rfl rfl ?_
    refine G_aload_n rfl rfl ?_
    refine H_getR rfl rfl rfl rfl rfl rfl ?_
    refine G_bipush rfl ?_
    refine H_iald rfl ((show (96 : Int32) = nI 96 from rfl)) rfl ((by decide)) rfl ?_
    refine G_icmp_ge rfl (fun h2 => ?_) (fun h2 => ?_)
    · skip
      refine G_iconst rfl ?_
      exact H_ret rfl rfl ((by simp [tIs, h2, b2i])) (rfl)
    refine G_iconst rfl ?_
    refine G_goto rfl ?_
    exact H_ret rfl rfl ((by simp [tIs, h1, h2, b2i])) (rfl)
  · refine EvM_mk [some (.ref _), some (.int t)] rfl rfl rfl rfl rfl (okb _) ?_
    refine G_iload_n rfl rfl ?_
    refine G_if_lt rfl (fun h1 => ?_) (fun h1 => ?_)
    · skip
      refine G_iconst rfl ?_
      exact H_ret rfl rfl ((by simp [tIs, h1, b2i])) (rfl)
    refine G_iload_n rfl rfl ?_
    refine G_aload_n rfl rfl ?_
    refine H_getR rfl rfl rfl rfl rfl rfl ?_
    refine G_bipush rfl ?_
    refine H_iald rfl ((show (96 : Int32) = nI 96 from rfl)) rfl ((by decide)) rfl ?_
    refine G_icmp_ge rfl (fun h2 => ?_) (fun h2 => ?_)
    · skip
      refine G_iconst rfl ?_
      exact H_ret rfl rfl ((by simp [tIs, h2, b2i])) (rfl)
    refine G_iconst rfl ?_
    refine G_goto rfl ?_
    exact H_ret rfl rfl ((by simp [tIs, h1, h2, b2i])) (rfl)
set_option maxRecDepth 100000 in
theorem ev_at {q w : Nat} (hq : TQ q w) (S : Nat → Nat → Int32) (R : Nat → Nat) (t p : Int32) : EvM kTable_at [.ref q, .int t, .int p] (mk S R) (some (.int (tAt (S w) t p))) (mk S R) := by
  rcases hq with ⟨rfl, rfl⟩ | ⟨rfl, rfl⟩
  · refine EvM_mk [some (.ref _), some (.int t), some (.int p), none] rfl rfl rfl rfl rfl (trivial) ?_
    have out : tIn t p = false → ∀ (w : Nat) (q : Nat), Gm kTable_at 24 [some (.ref q), some (.int t), some (.int p), none] [] (S, PF R, 32) (some (.int (tAt (S w) t p))) (S, PF R, 32) := fun ho w q => by
      refine G_iconst rfl ?_
      refine H_ist_4_3 rfl rfl ?_
      refine G_iload_n rfl rfl ?_
      refine G_if_eq rfl (fun h9 => ?_) (fun h9 => ?_)
      · skip
        refine G_ldc rfl ?_
        exact H_ret rfl rfl ((by rw [tAt_out ho]; rfl)) (rfl)
      · exact absurd rfl h9
    refine G_iload_n rfl rfl ?_
    refine G_if_lt rfl (fun h1 => ?_) (fun h1 => ?_)
    · exact out (by simp [tIn, h1]) _ _
    refine G_iload_n rfl rfl ?_
    refine G_bipush rfl ?_
    refine G_icmp_ge rfl (fun h2 => ?_) (fun h2 => ?_)
    · exact out (by simp [tIn, h2]) _ _
    refine G_iload_n rfl rfl ?_
    refine G_if_lt rfl (fun h3 => ?_) (fun h3 => ?_)
    · exact out (by simp [tIn, h3]) _ _
    refine G_iload_n rfl rfl ?_
    refine G_bipush rfl ?_
    refine G_icmp_ge rfl (fun h4 => ?_) (fun h4 => ?_)
    · exact out (by simp [tIn, h4]) _ _
    have hin : tIn t p = true := by simp [tIn, h1, h2, h3, h4]
    obtain ⟨a, b, ha, hb, rfl, rfl⟩ := tIn_ix hin
    refine G_iconst rfl ?_
    refine G_goto rfl ?_
    refine H_ist_4_3 rfl rfl ?_
    refine G_iload_n rfl rfl ?_
    refine G_if_eq rfl (fun h9 => ?_) (fun h9 => ?_)
    · exact absurd h9 (by decide)
    refine G_aload_n rfl rfl ?_
    refine H_getR rfl rfl rfl rfl rfl rfl ?_
    refine G_iload_n rfl rfl ?_
    refine G_bipush rfl ?_
    refine G_imul rfl ?_
    refine G_iload_n rfl rfl ?_
    refine G_iadd rfl ?_
    refine H_iald rfl ((tp_nI a b)) rfl ((by omega)) rfl ?_
    refine G_goto rfl ?_
    exact H_ret rfl rfl ((by rw [tAt_nI ha hb])) (rfl)
  · refine EvM_mk [some (.ref _), some (.int t), some (.int p), none] rfl rfl rfl rfl rfl (trivial) ?_
    have out : tIn t p = false → ∀ (w : Nat) (q : Nat), Gm kTable_at 24 [some (.ref q), some (.int t), some (.int p), none] [] (S, PF R, 32) (some (.int (tAt (S w) t p))) (S, PF R, 32) := fun ho w q => by
      refine G_iconst rfl ?_
      refine H_ist_4_3 rfl rfl ?_
      refine G_iload_n rfl rfl ?_
      refine G_if_eq rfl (fun h9 => ?_) (fun h9 => ?_)
      · skip
        refine G_ldc rfl ?_
        exact H_ret rfl rfl ((by rw [tAt_out ho]; rfl)) (rfl)
      · exact absurd rfl h9
    refine G_iload_n rfl rfl ?_
    refine G_if_lt rfl (fun h1 => ?_) (fun h1 => ?_)
    · exact out (by simp [tIn, h1]) _ _
    refine G_iload_n rfl rfl ?_
    refine G_bipush rfl ?_
    refine G_icmp_ge rfl (fun h2 => ?_) (fun h2 => ?_)
    · exact out (by simp [tIn, h2]) _ _
    refine G_iload_n rfl rfl ?_
    refine G_if_lt rfl (fun h3 => ?_) (fun h3 => ?_)
    · exact out (by simp [tIn, h3]) _ _
    refine G_iload_n rfl rfl ?_
    refine G_bipush rfl ?_
    refine G_icmp_ge rfl (fun h4 => ?_) (fun h4 => ?_)
    · exact out (by simp [tIn, h4]) _ _
    have hin : tIn t p = true := by simp [tIn, h1, h2, h3, h4]
    obtain ⟨a, b, ha, hb, rfl, rfl⟩ := tIn_ix hin
    refine G_iconst rfl ?_
    refine G_goto rfl ?_
    refine H_ist_4_3 rfl rfl ?_
    refine G_iload_n rfl rfl ?_
    refine G_if_eq rfl (fun h9 => ?_) (fun h9 => ?_)
    · exact absurd h9 (by decide)
    refine G_aload_n rfl rfl ?_
    refine H_getR rfl rfl rfl rfl rfl rfl ?_
    refine G_iload_n rfl rfl ?_
    refine G_bipush rfl ?_
    refine G_imul rfl ?_
    refine G_iload_n rfl rfl ?_
    refine G_iadd rfl ?_
    refine H_iald rfl ((tp_nI a b)) rfl ((by omega)) rfl ?_
    refine G_goto rfl ?_
    exact H_ret rfl rfl ((by rw [tAt_nI ha hb])) (rfl)
