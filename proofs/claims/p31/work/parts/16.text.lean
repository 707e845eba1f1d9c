/-! texts: q is the object, w its row, c its room -/
def XQ (q w c : Nat) : Prop := (q = 10 ∧ w = 11 ∧ c = 60) ∨ (q = 22 ∧ w = 23 ∧ c = 96)
/-- a text's sign at a place, 0 where there is none -/
def tx (f : Nat → Int32) (n : Nat) (p : Int32) : Int32 := bif decide (¬ p < 0) && decide (¬ nI n ≤ p) then f p.toNatClampNeg else 0
theorem tx_in {f : Nat → Int32} {n i : Nat} (h : i < n) (hn : n < 2 ^ 31) : tx f n (nI i) = f i := by
  have h1 : ¬ nI i < 0 := nI_pos (by omega)
  have h2 : ¬ nI n ≤ nI i := ge_no h hn
  simp [tx, h1, h2, nI_clamp (show i < 2 ^ 31 by omega)]
theorem tx_out {f : Nat → Int32} {n i : Nat} (h : n ≤ i) (hi : i < 2 ^ 31) : tx f n (nI i) = 0 := by
  have h2 : nI n ≤ nI i := nI_le h hi
  simp [tx, h2]
set_option maxRecDepth 100000 in
theorem ev_xlen {q w c : Nat} (hq : XQ q w c) (S : Nat → Nat → Int32) (R : Nat → Nat) : EvM kText_length [.ref q] (mk S R) (some (.int (S q 1))) (mk S R) := by
  rcases hq with ⟨rfl, rfl, rfl⟩ | ⟨rfl, rfl, rfl⟩
  · refine EvM_mk [some (.ref _)] rfl rfl rfl rfl rfl (trivial) ?_
    refine G_aload_n rfl rfl ?_
    refine H_getI rfl rfl rfl rfl ?_
    exact H_ret rfl rfl (rfl) (rfl)
  · refine EvM_mk [some (.ref _)] rfl rfl rfl rfl rfl (trivial) ?_
    refine G_aload_n rfl rfl ?_
    refine H_getI rfl rfl rfl rfl ?_
    exact H_ret rfl rfl (rfl) (rfl)
set_option maxRecDepth 100000 in
theorem ev_xat {q w c : Nat} (hq : XQ q w c) (S : Nat → Nat → Int32) (R : Nat → Nat) {n : Nat} (hn : S q 1 = nI n) (hc : n ≤ c) (p : Int32) : EvM kText_at [.ref q, .int p] (mk S R) (some (.int (tx (S w) n p))) (mk S R) := by
  rcases hq with ⟨rfl, rfl, rfl⟩ | ⟨rfl, rfl, rfl⟩
  · refine EvM_mk [some (.ref _), some (.int p)] rfl rfl rfl rfl rfl (trivial) ?_
    refine G_iload_n rfl rfl ?_
    refine G_if_lt rfl (fun h1 => ?_) (fun h1 => ?_)
    · skip
      refine G_iconst rfl ?_
      exact H_ret rfl rfl ((by simp [tx, h1])) (rfl)
    refine G_iload_n rfl rfl ?_
    refine G_aload_n rfl rfl ?_
    refine H_getI rfl rfl rfl rfl ?_
    refine G_icmp_ge rfl (fun h2 => ?_) (fun h2 => ?_)
    · skip
      rw [hn] at h2
      refine G_iconst rfl ?_
      exact H_ret rfl rfl ((by simp [tx, h2])) (rfl)
    rw [hn] at h2
    obtain ⟨j, hj, rfl⟩ := lt_ix n (by omega) h1 h2
    refine G_iload_n rfl rfl ?_
    refine G_aload_n rfl rfl ?_
    refine H_getR rfl rfl rfl rfl rfl rfl ?_
    refine G_alen rfl (rfl) (rfl) ?_
    refine G_icmp_ge rfl (fun h3 => ?_) (fun h3 => ?_)
    · exact absurd h3 (ge_no (n := 60) (by omega) (by decide))
    refine G_aload_n rfl rfl ?_
    refine H_getR rfl rfl rfl rfl rfl rfl ?_
    refine G_iload_n rfl rfl ?_
    refine H_iald rfl (rfl) (rfl) ((show j < 60 by omega)) (rfl) ?_
    refine G_goto rfl ?_
    exact H_ret rfl rfl ((by rw [tx_in hj (by omega)])) (rfl)
  · refine EvM_mk [some (.ref _), some (.int p)] rfl rfl rfl rfl rfl (trivial) ?_
    refine G_iload_n rfl rfl ?_
    refine G_if_lt rfl (fun h1 => ?_) (fun h1 => ?_)
    · skip
      refine G_iconst rfl ?_
      exact H_ret rfl rfl ((by simp [tx, h1])) (rfl)
    refine G_iload_n rfl rfl ?_
    refine G_aload_n rfl rfl ?_
    refine H_getI rfl rfl rfl rfl ?_
    refine G_icmp_ge rfl (fun h2 => ?_) (fun h2 => ?_)
    · skip
      rw [hn] at h2
      refine G_iconst rfl ?_
      exact H_ret rfl rfl ((by simp [tx, h2])) (rfl)
    rw [hn] at h2
    obtain ⟨j, hj, rfl⟩ := lt_ix n (by omega) h1 h2
    refine G_iload_n rfl rfl ?_
    refine G_aload_n rfl rfl ?_
    refine H_getR rfl rfl rfl rfl rfl rfl ?_
    refine G_alen rfl (rfl) (rfl) ?_
    refine G_icmp_ge rfl (fun h3 => ?_) (fun h3 => ?_)
    · exact absurd h3 (ge_no (n := 96) (by omega) (by decide))
    refine G_aload_n rfl rfl ?_
    refine H_getR rfl rfl rfl rfl rfl rfl ?_
    refine G_iload_n rfl rfl ?_
    refine H_iald rfl (rfl) (rfl) ((show j < 96 by omega)) (rfl) ?_
    refine G_goto rfl ?_
    exact H_ret rfl rfl ((by rw [tx_in hj (by omega)])) (rfl)
set_option maxRecDepth 100000 in
theorem ev_xempty {q w c : Nat} (hq : XQ q w c) (S : Nat → Nat → Int32) (R : Nat → Nat) : EvM kText_empty [.ref q] (mk S R) none (mk (u2 S q (upd (S q) 1 0)) R) := by
  rcases hq with ⟨rfl, rfl, rfl⟩ | ⟨rfl, rfl, rfl⟩
  · refine EvM_mk [some (.ref _)] rfl rfl rfl rfl rfl (trivial) ?_
    refine G_aload_n rfl rfl ?_
    refine G_iconst rfl ?_
    refine H_putI rfl rfl rfl rfl ?_
    exact H_retv rfl rfl (rfl)
  · refine EvM_mk [some (.ref _)] rfl rfl rfl rfl rfl (trivial) ?_
    refine G_aload_n rfl rfl ?_
    refine G_iconst rfl ?_
    refine H_putI rfl rfl rfl rfl ?_
    exact H_retv rfl rfl (rfl)
/-- a text with more signs at its end -/
def apd (f : Nat → Int32) (n : Nat) : List Int32 → Nat → Int32
  | [] => f
  | x :: l => apd (upd f n x) (n + 1) l
def xApp (S : Nat → Nat → Int32) (q w n : Nat) (l : List Int32) : Nat → Nat → Int32 := u2 (u2 S w (apd (S w) n l)) q (upd (S q) 1 (nI (n + l.length)))
theorem upd_upd {f : Nat → Int32} {k : Nat} {x y : Int32} : upd (upd f k x) k y = upd f k y := by
  funext j
  by_cases h : j = k
  · simp [upd, h]
  · simp [upd, h]
theorem apd_app (f : Nat → Int32) (n : Nat) (l1 l2 : List Int32) : apd (apd f n l1) (n + l1.length) l2 = apd f n (l1 ++ l2) := by
  induction l1 generalizing f n with
  | nil => rfl
  | cons x l ih =>
    show apd (apd (upd f n x) (n + 1) l) (n + (l.length + 1)) l2 = apd (upd f n x) (n + 1) (l ++ l2)
    rw [← ih, show n + (l.length + 1) = n + 1 + l.length by omega]
theorem xApp_q {S : Nat → Nat → Int32} {q w n : Nat} {l : List Int32} (h : q ≠ w) : xApp S q w n l q 1 = nI (n + l.length) := by simp [xApp, u2, upd]
theorem xApp_app {S : Nat → Nat → Int32} {q w n : Nat} {l1 l2 : List Int32} (h : q ≠ w) : xApp (xApp S q w n l1) q w (n + l1.length) l2 = xApp S q w n (l1 ++ l2) := by
  funext i
  by_cases h1 : i = q
  · subst h1
    simp [xApp, u2, upd_upd, Nat.add_assoc]
  · by_cases h2 : i = w
    · subst h2
      simp [xApp, u2, h1, apd_app]
    · simp [xApp, u2, h1, h2]
set_option maxRecDepth 100000 in
theorem ev_xadd {q w c : Nat} (hq : XQ q w c) (S : Nat → Nat → Int32) (R : Nat → Nat) {n : Nat} (hn : S q 1 = nI n) (hc : n < c) (x : Int32) : EvM kText_add [.ref q, .int x] (mk S R) none (mk (xApp S q w n [x]) R) := by
  rcases hq with ⟨rfl, rfl, rfl⟩ | ⟨rfl, rfl, rfl⟩
  · refine EvM_mk [some (.ref _), some (.int x)] rfl rfl rfl rfl rfl (trivial) ?_
    refine G_aload_n rfl rfl ?_
    refine H_getI rfl rfl rfl rfl ?_
    refine G_if_lt rfl (fun h1 => ?_) (fun h1 => ?_)
    · exact absurd (by rw [hn] at h1; exact h1) (nI_pos (by omega))
    refine G_aload_n rfl rfl ?_
    refine H_getI rfl rfl rfl rfl ?_
    refine G_aload_n rfl rfl ?_
    refine H_getR rfl rfl rfl rfl rfl rfl ?_
    refine G_alen rfl (rfl) (rfl) ?_
    refine G_icmp_ge rfl (fun h2 => ?_) (fun h2 => ?_)
    · exact absurd (by rw [hn] at h2; exact h2) (ge_no (n := 60) hc (by decide))
    refine G_aload_n rfl rfl ?_
    refine H_getR rfl rfl rfl rfl rfl rfl ?_
    refine G_aload_n rfl rfl ?_
    refine H_getI rfl rfl rfl rfl ?_
    refine G_iload_n rfl rfl ?_
    refine H_iast rfl (hn) (rfl) (hc) (rfl) ?_
    refine G_aload_n rfl rfl ?_
    refine G_dup rfl rfl ?_
    refine H_getI rfl rfl rfl rfl ?_
    refine G_iconst rfl ?_
    refine G_iadd rfl ?_
    refine H_putI rfl rfl rfl rfl ?_
    exact H_retv rfl rfl ((by simp [xApp, apd, u2_ne, hn, nI_succ]))
  · refine EvM_mk [some (.ref _), some (.int x)] rfl rfl rfl rfl rfl (trivial) ?_
    refine G_aload_n rfl rfl ?_
    refine H_getI rfl rfl rfl rfl ?_
    refine G_if_lt rfl (fun h1 => ?_) (fun h1 => ?_)
    · exact absurd (by rw [hn] at h1; exact h1) (nI_pos (by omega))
    refine G_aload_n rfl rfl ?_
    refine H_getI rfl rfl rfl rfl ?_
    refine G_aload_n rfl rfl ?_
    refine H_getR rfl rfl rfl rfl rfl rfl ?_
    refine G_alen rfl (rfl) (rfl) ?_
    refine G_icmp_ge rfl (fun h2 => ?_) (fun h2 => ?_)
    · exact absurd (by rw [hn] at h2; exact h2) (ge_no (n := 96) hc (by decide))
    refine G_aload_n rfl rfl ?_
    refine H_getR rfl rfl rfl rfl rfl rfl ?_
    refine G_aload_n rfl rfl ?_
    refine H_getI rfl rfl rfl rfl ?_
    refine G_iload_n rfl rfl ?_
    refine H_iast rfl (hn) (rfl) (hc) (rfl) ?_
    refine G_aload_n rfl rfl ?_
    refine G_dup rfl rfl ?_
    refine H_getI rfl rfl rfl rfl ?_
    refine G_iconst rfl ?_
    refine G_iadd rfl ?_
    refine H_putI rfl rfl rfl rfl ?_
    exact H_retv rfl rfl ((by simp [xApp, apd, u2_ne, hn, nI_succ]))
/-- the signs of a number -/
def digU (u : Int32) : List Int32 := (if 100 ≤ u then [48 + u / 100] else []) ++ ((if 10 ≤ u then [48 + (u / 10 - u / 10 / 10 * 10)] else []) ++ [48 + (u - u / 10 * 10)])
def digs (v : Int32) : List Int32 := (if v < 0 then [45] else []) ++ digU (if v < 0 then -v else v)
theorem digU_len (u : Int32) : (digU u).length ≤ 3 := by
  unfold digU
  split <;> split <;> simp
theorem digs_len (v : Int32) : (digs v).length ≤ 4 := by
  have := digU_len (if v < 0 then -v else v)
  unfold digs
  rw [List.length_append]
  split <;> simp_all <;> omega
set_option maxRecDepth 100000 in
theorem ev_addNumber (S : Nat → Nat → Int32) (R : Nat → Nat) {n : Nat} (hn : S 22 1 = nI n) (hc : n + 4 ≤ 96) (v : Int32) : EvM kText_addNumber [.ref 22, .int v] (mk S R) none (mk (xApp S 22 23 n (digs v)) R) := by
  have hq : XQ 22 23 96 := Or.inr ⟨rfl, rfl, rfl⟩
  refine EvM_mk [some (.ref 22), some (.int v), none] rfl rfl rfl rfl rfl (trivial) ?_
  have tail : ∀ (S : Nat → Nat → Int32) (n : Nat) (u : Int32), S 22 1 = nI n → n + 3 ≤ 96 → Gm kText_addNumber 21 [some (.ref 22), some (.int v), some (.int u)] [] (S, PF R, 24) none (xApp S 22 23 n (digU u), PF R, 24) := fun S n u hn hc => by
    have t3 : ∀ (S : Nat → Nat → Int32) (n : Nat), S 22 1 = nI n → n + 1 ≤ 96 → Gm kText_addNumber 58 [some (.ref 22), some (.int v), some (.int u)] [] (S, PF R, 24) none (xApp S 22 23 n [48 + (u - u / 10 * 10)], PF R, 24) := fun S n hn hc => by
      refine G_aload_n rfl rfl ?_
      refine G_bipush rfl ?_
      refine G_iload_n rfl rfl ?_
      refine G_bipush rfl ?_
      refine G_irem rfl (by decide) ?_
      refine G_iadd rfl ?_
      refine H_callU (ev_xadd hq S R hn (by omega) _) rfl rfl rfl rfl rfl rfl rfl rfl ?_
      exact H_retv rfl rfl (rfl)
    have t2 : ∀ (S : Nat → Nat → Int32) (n : Nat), S 22 1 = nI n → n + 2 ≤ 96 → Gm kText_addNumber 38 [some (.ref 22), some (.int v), some (.int u)] [] (S, PF R, 24) none (xApp S 22 23 n ((if 10 ≤ u then [48 + (u / 10 - u / 10 / 10 * 10)] else []) ++ [48 + (u - u / 10 * 10)]), PF R, 24) := fun S n hn hc => by
      refine G_iload_n rfl rfl ?_
      refine G_bipush rfl ?_
      refine G_icmp_lt rfl (fun h => ?_) (fun h => ?_)
      · rw [if_neg (fun q => by simp only [Int32.lt_iff_toInt_lt, Int32.le_iff_toInt_le] at *; omega)]
        exact t3 S n hn (by omega)
      · rw [if_pos (by simp only [Int32.lt_iff_toInt_lt, Int32.le_iff_toInt_le] at *; omega)]
        refine G_aload_n rfl rfl ?_
        refine G_bipush rfl ?_
        refine G_iload_n rfl rfl ?_
        refine G_bipush rfl ?_
        refine G_idiv rfl (by decide) ?_
        refine G_bipush rfl ?_
        refine G_irem rfl (by decide) ?_
        refine G_iadd rfl ?_
        refine H_callU (ev_xadd hq S R hn (by omega) _) rfl rfl rfl rfl rfl rfl rfl rfl ?_
        rw [← xApp_app (by decide)]
        exact t3 _ _ (xApp_q (by decide)) (by simp; omega)
    refine G_iload_n rfl rfl ?_
    refine G_bipush rfl ?_
    refine G_icmp_lt rfl (fun h => ?_) (fun h => ?_)
    · unfold digU
      rw [if_neg (fun q => by simp only [Int32.lt_iff_toInt_lt, Int32.le_iff_toInt_le] at *; omega)]
      exact t2 S n hn (by omega)
    · unfold digU
      rw [if_pos (by simp only [Int32.lt_iff_toInt_lt, Int32.le_iff_toInt_le] at *; omega)]
      refine G_aload_n rfl rfl ?_
      refine G_bipush rfl ?_
      refine G_iload_n rfl rfl ?_
      refine G_bipush rfl ?_
      refine G_idiv rfl (by decide) ?_
      refine G_iadd rfl ?_
      refine H_callU (ev_xadd hq S R hn (by omega) _) rfl rfl rfl rfl rfl rfl rfl rfl ?_
      rw [← xApp_app (by decide)]
      exact t2 _ _ (xApp_q (by decide)) (by simp; omega)
  refine G_iload_n rfl rfl ?_
  refine G_if_ge rfl (fun h1 => ?_) (fun h1 => ?_)
  · have h1' : ¬ v < 0 := fun q => by simp only [Int32.lt_iff_toInt_lt, Int32.le_iff_toInt_le] at *; omega
    refine G_iload_n rfl rfl ?_
    refine H_ist_3_2 rfl rfl ?_
    refine G_iload_n rfl rfl ?_
    refine G_if_ge rfl (fun h2 => ?_) (fun h2 => ?_)
    · unfold digs
      rw [if_neg h1', if_neg h1', List.nil_append]
      exact tail S n v hn (by omega)
    · exact absurd h1 h2
  · have h1' : v < 0 := by simp only [Int32.lt_iff_toInt_lt, Int32.le_iff_toInt_le] at *; omega
    refine G_iload_n rfl rfl ?_
    refine G_ineg rfl ?_
    refine G_goto rfl ?_
    refine H_ist_3_2 rfl rfl ?_
    refine G_iload_n rfl rfl ?_
    refine G_if_ge rfl (fun h2 => ?_) (fun h2 => ?_)
    · exact absurd h2 h1
    · unfold digs
      rw [if_pos h1', if_pos h1']
      refine G_aload_n rfl rfl ?_
      refine G_bipush rfl ?_
      refine H_callU (ev_xadd hq S R hn (by omega) _) rfl rfl rfl rfl rfl rfl rfl rfl ?_
      rw [← xApp_app (by decide)]
      exact tail _ _ _ (xApp_q (by decide)) (by simp; omega)
