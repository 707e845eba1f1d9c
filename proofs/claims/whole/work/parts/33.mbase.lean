/-! the document's own reckoning (the model of the law): cells 24 to 31; held against the class's row -/
theorem nI_mul' (a b : Nat) : nI (a * b) = nI a * nI b := Int32.ofNat_mul a b
theorem ix6 (t p : Nat) : (6 : Int32) + 12 * nI t + nI p = nI (6 + (t * 12 + p)) := by
  have h : (12 : Int32) * nI t = nI (t * 12) := by rw [Nat.mul_comm, nI_mul']; rfl
  rw [h, show (6 : Int32) = nI 6 from rfl, nI_add, nI_add, Nat.add_assoc]
def en (x : Int32) : Int32 := if x = NONE then 0 else x + 1000
def RG (row : Nat → Int32) : Prop := ∀ j, j < 96 → hs row j = true → isNb (row j) = true
def CR (row : Nat → Int32) (T : Nat) (s : Nat → Int32) : Prop := NT row T ∧ RG row ∧ s 0 = nI T ∧ s 1 = nI (cnt (hs row) 96) ∧ s 2 = row 97 ∧ s 3 = row 98 ∧ s 4 = row 99 ∧ s 5 = row 100 ∧ ∀ j, j < 96 → s (6 + j) = en (row j)
/-- what the looks need -/
def CS (row : Nat → Int32) (T : Nat) (s : Nat → Int32) : Prop := NT row T ∧ RG row ∧ s 0 = nI T ∧ ∀ j, j < 96 → s (6 + j) = en (row j)
theorem CR.cs {row : Nat → Int32} {T : Nat} {s : Nat → Int32} (h : CR row T s) : CS row T s := ⟨h.1, h.2.1, h.2.2.1, h.2.2.2.2.2.2.2.2⟩
theorem isNb_iff {x : Int32} : isNb x = true ↔ -999 ≤ x.toInt ∧ x.toInt ≤ 999 := by
  have h1 : (-999 : Int32).toInt = -999 := by decide
  have h2 : (999 : Int32).toInt = 999 := by decide
  unfold isNb
  rw [Bool.and_eq_true, decide_eq_true_eq, decide_eq_true_eq, Int32.not_lt, Int32.not_lt, Int32.le_iff_toInt_le, Int32.le_iff_toInt_le, h1, h2]
theorem NONE_nb : isNb NONE = false := by decide
theorem nb_ne {x : Int32} (h : isNb x = true) : x ≠ NONE := fun e => by rw [e, NONE_nb] at h; cases h
theorem nb_pos {x : Int32} (h : isNb x = true) : (x + 1000).toInt = x.toInt + 1000 := by
  obtain ⟨h1, h2⟩ := isNb_iff.mp h
  rw [Int32.toInt_add, show (1000 : Int32).toInt = 1000 by decide]
  exact Int.bmod_eq_of_le (by omega) (by omega)
theorem en_le {x : Int32} (h : x ≠ NONE → isNb x = true) : en x ≤ 0 ↔ x = NONE := by
  unfold en
  by_cases e : x = NONE
  · rw [if_pos e]; exact ⟨fun _ => e, fun _ => by decide⟩
  · rw [if_neg e]
    refine ⟨fun q => ?_, fun q => absurd q e⟩
    have h1 := nb_pos (h e)
    obtain ⟨h2, h3⟩ := isNb_iff.mp (h e)
    rw [Int32.le_iff_toInt_le, h1, show (0 : Int32).toInt = 0 by decide] at q
    omega
theorem hs_ne {row : Nat → Int32} {j : Nat} : hs row j = true ↔ row j ≠ NONE := by simp [hs]
theorem CR_has {row : Nat → Int32} {T : Nat} {s : Nat → Int32} (h : CS row T s) {j : Nat} (hj : j < 96) : decide (¬ s (6 + j) ≤ 0) = hs row j := by
  have h1 := en_le (x := row j) (fun e => h.2.1 j hj (hs_ne.mpr e))
  rw [h.2.2.2 j hj]
  simp [hs, h1]
theorem CR_of {row : Nat → Int32} {T : Nat} {s : Nat → Int32} (h : CS row T s) {j : Nat} (hj : j < 96) (hh : hs row j = true) : s (6 + j) - 1000 = row j := by
  rw [h.2.2.2 j hj, en, if_neg (hs_ne.mp hh)]
  grind
theorem hs_up2 {row : Nat → Int32} {j i : Nat} {v : Int32} : hs (upd row j v) i = if i = j then !decide (v = NONE) else hs row i := by
  unfold hs
  by_cases h : i = j
  · rw [if_pos h, h, upd_same]
  · rw [if_neg h, upd_ne h]
theorem cnt_put {row : Nat → Int32} {j : Nat} {v : Int32} (hv : v ≠ NONE) (hj : j < 96) : nI (cnt (hs (upd row j v)) 96) = nI (cnt (hs row) 96) + (bif hs row j then 0 else 1) := by
  cases h : hs row j with
  | true =>
    rw [cond_true, Int32.add_zero]
    refine congrArg nI (cnt_congr (fun i hi => ?_))
    rw [hs_up2]
    split
    · next e => rw [e, h]; simp [hv]
    · rfl
  | false =>
    rw [cond_false, ← nI_succ]
    exact congrArg nI (cnt_up h (by rw [hs_up2, if_pos rfl]; simp [hv]) (fun y hy => by rw [hs_up2, if_neg hy]) hj)
theorem cnt_del {row : Nat → Int32} {j : Nat} (hj : j < 96) : nI (cnt (hs (upd row j NONE)) 96) = nI (cnt (hs row) 96) - (bif hs row j then 1 else 0) := by
  cases h : hs row j with
  | false =>
    rw [cond_false, Int32.sub_zero]
    refine congrArg nI (cnt_congr (fun i hi => ?_))
    rw [hs_up2]
    split
    · next e => rw [e, h]; rfl
    · rfl
  | true =>
    rw [cond_true, cnt_up (f := hs (upd row j NONE)) (g := hs row) (x := j) (by rw [hs_up2, if_pos rfl]; rfl) h (fun y hy => by rw [hs_up2, if_neg hy]) hj, nI_succ]
    grind
theorem CR_put {row : Nat → Int32} {T : Nat} {s : Nat → Int32} (h : CR row T s) {j : Nat} {v : Int32} (hj : j < T * 12) (hv : isNb v = true) : CR (upd row j v) T (upd (upd s 1 (s 1 + (bif hs row j then 0 else 1))) (6 + j) (v + 1000)) := by
  obtain ⟨h1, h2, h3, h4, h5, h6, h7, h8, h9⟩ := h
  have hT8 := h1.2.1
  refine ⟨NT_u (Or.inr hj) h1, fun i hi hh => ?_, ?_, ?_, ?_, ?_, ?_, ?_, fun i hi => ?_⟩
  · by_cases e : i = j
    · rw [e, upd_same]; exact hv
    · rw [upd_ne e]; rw [hs_up2, if_neg e] at hh; exact h2 i hi hh
  · rw [upd_ne (by omega), upd_ne (by omega), h3]
  · rw [upd_ne (by omega), upd_same, h4, cnt_put (nb_ne hv) (by omega)]
  · rw [upd_ne (by omega), upd_ne (by omega), upd_ne (by omega), h5]
  · rw [upd_ne (by omega), upd_ne (by omega), upd_ne (by omega), h6]
  · rw [upd_ne (by omega), upd_ne (by omega), upd_ne (by omega), h7]
  · rw [upd_ne (by omega), upd_ne (by omega), upd_ne (by omega), h8]
  · by_cases e : i = j
    · rw [e, upd_same, upd_same, en, if_neg (nb_ne hv)]
    · rw [upd_ne (by omega), upd_ne (by omega), upd_ne e, h9 i hi]
theorem CR_del {row : Nat → Int32} {T : Nat} {s : Nat → Int32} (h : CR row T s) {j : Nat} (hj : j < 96) : CR (upd row j NONE) T (upd (upd s 1 (s 1 - (bif hs row j then 1 else 0))) (6 + j) 0) := by
  obtain ⟨h1, h2, h3, h4, h5, h6, h7, h8, h9⟩ := h
  have hT8 := h1.2.1
  refine ⟨⟨by rw [upd_ne (by omega)]; exact h1.1, h1.2.1, fun i q1 q2 => ?_⟩, fun i hi hh => ?_, ?_, ?_, ?_, ?_, ?_, ?_, fun i hi => ?_⟩
  · by_cases e : i = j
    · rw [e, upd_same]
    · rw [upd_ne e]; exact h1.2.2 i q1 q2
  · by_cases e : i = j
    · rw [hs_up2, if_pos e] at hh; cases hh
    · rw [upd_ne e]; rw [hs_up2, if_neg e] at hh; exact h2 i hi hh
  · rw [upd_ne (by omega), upd_ne (by omega), h3]
  · rw [upd_ne (by omega), upd_same, h4, cnt_del (by omega)]
  · rw [upd_ne (by omega), upd_ne (by omega), upd_ne (by omega), h5]
  · rw [upd_ne (by omega), upd_ne (by omega), upd_ne (by omega), h6]
  · rw [upd_ne (by omega), upd_ne (by omega), upd_ne (by omega), h7]
  · rw [upd_ne (by omega), upd_ne (by omega), upd_ne (by omega), h8]
  · by_cases e : i = j
    · rw [e, upd_same, upd_same]; rfl
    · rw [upd_ne (by omega), upd_ne (by omega), upd_ne e, h9 i hi]
def mIn (v l m : Int32) : Bool := decide (¬ v < l) && decide (¬ m < v)
theorem mIn_pt (v : Int32) : mIn v 0 11 = isPt v := by
  have h1 : (11 : Int32).toInt = 11 := by decide
  have h2 : (12 : Int32).toInt = 12 := by decide
  have : (¬ (11 : Int32) < v) ↔ ¬ (12 : Int32) ≤ v := by rw [Int32.lt_iff_toInt_lt, Int32.le_iff_toInt_le, h1, h2]; omega
  unfold mIn isPt
  rw [decide_eq_decide.mpr this]
theorem mIn_tp {row : Nat → Int32} {T : Nat} (hT : NT row T) (t : Int32) : mIn t 0 (nI T - 1) = tIs row t := by
  have h1 : ∀ k, k < 9 → (nI k - 1).toInt = (k : Int) - 1 := by decide
  have h2 := nI_toInt (show T < 2 ^ 31 by have := hT.2.1; omega)
  have h3 := h1 T (by have := hT.2.1; omega)
  have : (¬ nI T - 1 < t) ↔ ¬ nI T ≤ t := by rw [Int32.lt_iff_toInt_lt, Int32.le_iff_toInt_le, h2, h3]; omega
  unfold mIn tIs
  rw [hT.1, decide_eq_decide.mpr this]
def cpA (f : Nat → Int32) (A : Nat) (g : Nat → Int32) (B n : Nat) : Nat → Int32 := fun j => if B ≤ j ∧ j < B + n then f (A + (j - B)) else g j
theorem cpA_0 {f g : Nat → Int32} {A B : Nat} : cpA f A g B 0 = g := by
  funext j
  unfold cpA
  rw [if_neg (by omega)]
theorem cpA_s {f g : Nat → Int32} {A B n : Nat} : upd (cpA f A g B n) (B + n) (f (A + n)) = cpA f A g B (n + 1) := by
  funext j
  by_cases h : j = B + n
  · subst h
    rw [upd_same]
    unfold cpA
    rw [if_pos (by omega), show A + (B + n - B) = A + n by omega]
  · rw [upd_ne h]
    unfold cpA
    by_cases h2 : B ≤ j ∧ j < B + n
    · rw [if_pos h2, if_pos (by omega)]
    · rw [if_neg h2, if_neg (by omega)]
section MB
variable (S : Nat → Nat → Int32) (R : Nat → Nat) {row : Nat → Int32} {T : Nat}
set_option maxRecDepth 100000 in
theorem ev_min (v l m : Int32) : EvM kM_in [.int v, .int l, .int m] (mk S R) (some (.int (b2i (mIn v l m)))) (mk S R) := by
  refine EvM_mk [some (.int v), some (.int l), some (.int m)] rfl rfl rfl rfl rfl (okb _) ?_
  refine G_iload_n rfl rfl ?_
  refine G_iload_n rfl rfl ?_
  refine G_icmp_lt rfl (fun h1 => ?_) (fun h1 => ?_)
  · skip
    refine G_iconst rfl ?_
    exact H_ret rfl rfl ((by simp [mIn, h1, b2i])) (rfl)
  refine G_iload_n rfl rfl ?_
  refine G_iload_n rfl rfl ?_
  refine G_icmp_gt rfl (fun h2 => ?_) (fun h2 => ?_)
  · skip
    refine G_iconst rfl ?_
    exact H_ret rfl rfl ((by simp [mIn, h2, b2i])) (rfl)
  refine G_iconst rfl ?_
  refine G_goto rfl ?_
  exact H_ret rfl rfl ((by simp [mIn, h1, h2, b2i])) (rfl)
set_option maxRecDepth 100000 in
theorem ev_misTape (hC : CS row T (S 25)) (t : Int32) : EvM kM_isTape [.ref 24, .int t] (mk S R) (some (.int (b2i (tIs row t)))) (mk S R) := by
  have c1 := ev_min S R t 0 (S 25 0 - 1)
  rw [hC.2.2.1, mIn_tp hC.1] at c1
  refine EvM_mk [some (.ref 24), some (.int t)] rfl rfl rfl rfl rfl (okb _) ?_
  refine G_iload_n rfl rfl ?_
  refine G_iconst rfl ?_
  refine G_aload_n rfl rfl ?_
  refine H_getR rfl rfl rfl rfl rfl rfl ?_
  refine G_iconst rfl ?_
  refine H_iald rfl ((show (0 : Int32) = nI 0 from rfl)) (rfl) ((by decide)) (rfl) ?_
  rw [hC.2.2.1]
  refine G_iconst rfl ?_
  refine G_isub rfl ?_
  refine H_callS (c1) rfl rfl rfl rfl rfl ?_
  exact H_ret rfl rfl (rfl) (rfl)
set_option maxRecDepth 100000 in
theorem ev_misPoint (p : Int32) : EvM kM_isPoint [.int p] (mk S R) (some (.int (b2i (isPt p)))) (mk S R) := by
  have c1 := ev_min S R p 0 11
  rw [mIn_pt] at c1
  refine EvM_mk [some (.int p)] rfl rfl rfl rfl rfl (okb _) ?_
  refine G_iload_n rfl rfl ?_
  refine G_iconst rfl ?_
  refine G_bipush rfl ?_
  refine H_callS (c1) rfl rfl rfl rfl rfl ?_
  exact H_ret rfl rfl (rfl) (rfl)
set_option maxRecDepth 100000 in
theorem ev_misNumber (p : Int32) : EvM kM_isNumber [.int p] (mk S R) (some (.int (b2i (isNb p)))) (mk S R) := by
  refine EvM_mk [some (.int p)] rfl rfl rfl rfl rfl (okb _) ?_
  refine G_iload_n rfl rfl ?_
  refine G_sipush rfl ?_
  refine G_sipush rfl ?_
  refine H_callS (ev_min S R p (-999) 999) rfl rfl rfl rfl rfl ?_
  exact H_ret rfl rfl (rfl) (rfl)
set_option maxRecDepth 100000 in
theorem ev_mhas (hC : CS row T (S 25)) {t p : Nat} (ht : t < 8) (hp : p < 12) : EvM kM_has [.ref 24, .int (nI t), .int (nI p)] (mk S R) (some (.int (b2i (hs row (t * 12 + p))))) (mk S R) := by
  have e := CR_has hC (j := t * 12 + p) (by omega)
  refine EvM_mk [some (.ref 24), some (.int (nI t)), some (.int (nI p))] rfl rfl rfl rfl rfl (okb _) ?_
  refine G_aload_n rfl rfl ?_
  refine H_getR rfl rfl rfl rfl rfl rfl ?_
  refine G_bipush rfl ?_
  refine G_bipush rfl ?_
  refine G_iload_n rfl rfl ?_
  refine G_imul rfl ?_
  refine G_iadd rfl ?_
  refine G_iload_n rfl rfl ?_
  refine G_iadd rfl ?_
  refine H_iald rfl (ix6 t p) (rfl) ((by omega)) (rfl) ?_
  refine G_if_le rfl (fun h => ?_) (fun h => ?_)
  · skip
    refine G_iconst rfl ?_
    exact H_ret rfl rfl ((by rw [← e, decide_eq_false (fun q => q h)]; rfl)) (rfl)
  refine G_iconst rfl ?_
  refine G_goto rfl ?_
  exact H_ret rfl rfl ((by rw [← e, decide_eq_true h]; rfl)) (rfl)
set_option maxRecDepth 100000 in
theorem ev_mof {t p : Nat} (ht : t < 8) (hp : p < 12) : EvM kM_of [.ref 24, .int (nI t), .int (nI p)] (mk S R) (some (.int (S 25 (6 + (t * 12 + p)) - 1000))) (mk S R) := by
  refine EvM_mk [some (.ref 24), some (.int (nI t)), some (.int (nI p))] rfl rfl rfl rfl rfl (trivial) ?_
  refine G_aload_n rfl rfl ?_
  refine H_getR rfl rfl rfl rfl rfl rfl ?_
  refine G_bipush rfl ?_
  refine G_bipush rfl ?_
  refine G_iload_n rfl rfl ?_
  refine G_imul rfl ?_
  refine G_iadd rfl ?_
  refine G_iload_n rfl rfl ?_
  refine G_iadd rfl ?_
  refine H_iald rfl (ix6 t p) (rfl) ((by omega)) (rfl) ?_
  refine G_sipush rfl ?_
  refine G_isub rfl ?_
  exact H_ret rfl rfl (rfl) (rfl)
set_option maxRecDepth 100000 in
theorem ev_mlays (hC : CR row T (S 25)) {t p : Nat} (ht : t < T) (hp : p < 12) {v : Int32} (hv : isNb v = true) : ∃ s, EvM kM_lays [.ref 24, .int (nI t), .int (nI p), .int v] (mk S R) none (mk (u2 S 25 s) R) ∧ CR (upd row (t * 12 + p) v) T s := by
  have hT8 := hC.1.2.1
  refine ⟨_, ?_, CR_put hC (j := t * 12 + p) (by omega) hv⟩
  have c1 := ev_mhas S R hC.cs (t := t) (p := p) (by omega) hp
  have e1 : (1 : Int32) = nI 1 := rfl
  refine EvM_mk [some (.ref 24), some (.int (nI t)), some (.int (nI p)), some (.int v)] rfl rfl rfl rfl rfl (trivial) ?_
  refine G_aload_n rfl rfl ?_
  refine H_getR rfl rfl rfl rfl rfl rfl ?_
  refine G_iconst rfl ?_
  refine G_dup2 rfl rfl rfl ?_
  refine H_iald rfl (e1) (rfl) ((by decide)) (rfl) ?_
  refine G_aload_n rfl rfl ?_
  refine G_iload_n rfl rfl ?_
  refine G_iload_n rfl rfl ?_
  refine H_callV (c1) rfl rfl rfl rfl rfl rfl rfl rfl ?_
  refine G_if_eq rfl (fun h => ?_) (fun h => ?_)
  · skip
    refine G_iconst rfl ?_
    refine G_iadd rfl ?_
    refine H_iast rfl (e1) (rfl) ((by decide)) (rfl) ?_
    refine G_aload_n rfl rfl ?_
    refine H_getR rfl rfl rfl rfl rfl rfl ?_
    refine G_bipush rfl ?_
    refine G_bipush rfl ?_
    refine G_iload_n rfl rfl ?_
    refine G_imul rfl ?_
    refine G_iadd rfl ?_
    refine G_iload_n rfl rfl ?_
    refine G_iadd rfl ?_
    refine G_iload_n rfl rfl ?_
    refine G_sipush rfl ?_
    refine G_iadd rfl ?_
    refine H_iast rfl (ix6 t p) (rfl) ((by omega)) (rfl) ?_
    exact H_retv rfl rfl ((by rw [u2_u2, u2_same, b2i_0.mp h]; rfl))
  · skip
    refine G_iconst rfl ?_
    refine G_goto rfl ?_
    refine G_iadd rfl ?_
    refine H_iast rfl (e1) (rfl) ((by decide)) (rfl) ?_
    refine G_aload_n rfl rfl ?_
    refine H_getR rfl rfl rfl rfl rfl rfl ?_
    refine G_bipush rfl ?_
    refine G_bipush rfl ?_
    refine G_iload_n rfl rfl ?_
    refine G_imul rfl ?_
    refine G_iadd rfl ?_
    refine G_iload_n rfl rfl ?_
    refine G_iadd rfl ?_
    refine G_iload_n rfl rfl ?_
    refine G_sipush rfl ?_
    refine G_iadd rfl ?_
    refine H_iast rfl (ix6 t p) (rfl) ((by omega)) (rfl) ?_
    exact H_retv rfl rfl ((by rw [u2_u2, u2_same, b2i_n0.mp h]; rfl))
set_option maxRecDepth 100000 in
theorem ev_mloses (hC : CR row T (S 25)) {t p : Nat} (ht : t < 8) (hp : p < 12) : ∃ s, EvM kM_loses [.ref 24, .int (nI t), .int (nI p)] (mk S R) none (mk (u2 S 25 s) R) ∧ CR (upd row (t * 12 + p) NONE) T s := by
  refine ⟨_, ?_, CR_del hC (j := t * 12 + p) (by omega)⟩
  have c1 := ev_mhas S R hC.cs (t := t) (p := p) (by omega) hp
  have e1 : (1 : Int32) = nI 1 := rfl
  refine EvM_mk [some (.ref 24), some (.int (nI t)), some (.int (nI p))] rfl rfl rfl rfl rfl (trivial) ?_
  refine G_aload_n rfl rfl ?_
  refine H_getR rfl rfl rfl rfl rfl rfl ?_
  refine G_iconst rfl ?_
  refine G_dup2 rfl rfl rfl ?_
  refine H_iald rfl (e1) (rfl) ((by decide)) (rfl) ?_
  refine G_aload_n rfl rfl ?_
  refine G_iload_n rfl rfl ?_
  refine G_iload_n rfl rfl ?_
  refine H_callV (c1) rfl rfl rfl rfl rfl rfl rfl rfl ?_
  refine G_if_eq rfl (fun h => ?_) (fun h => ?_)
  · skip
    refine G_iconst rfl ?_
    refine G_isub rfl ?_
    refine H_iast rfl (e1) (rfl) ((by decide)) (rfl) ?_
    refine G_aload_n rfl rfl ?_
    refine H_getR rfl rfl rfl rfl rfl rfl ?_
    refine G_bipush rfl ?_
    refine G_bipush rfl ?_
    refine G_iload_n rfl rfl ?_
    refine G_imul rfl ?_
    refine G_iadd rfl ?_
    refine G_iload_n rfl rfl ?_
    refine G_iadd rfl ?_
    refine G_iconst rfl ?_
    refine H_iast rfl (ix6 t p) (rfl) ((by omega)) (rfl) ?_
    exact H_retv rfl rfl ((by rw [u2_u2, u2_same, b2i_0.mp h]; rfl))
  · skip
    refine G_iconst rfl ?_
    refine G_goto rfl ?_
    refine G_isub rfl ?_
    refine H_iast rfl (e1) (rfl) ((by decide)) (rfl) ?_
    refine G_aload_n rfl rfl ?_
    refine H_getR rfl rfl rfl rfl rfl rfl ?_
    refine G_bipush rfl ?_
    refine G_bipush rfl ?_
    refine G_iload_n rfl rfl ?_
    refine G_imul rfl ?_
    refine G_iadd rfl ?_
    refine G_iload_n rfl rfl ?_
    refine G_iadd rfl ?_
    refine G_iconst rfl ?_
    refine H_iast rfl (ix6 t p) (rfl) ((by omega)) (rfl) ?_
    exact H_retv rfl rfl ((by rw [u2_u2, u2_same, b2i_n0.mp h]; rfl))
set_option maxRecDepth 100000 in
theorem ev_mmany (hC : CR row T (S 25)) {t : Nat} (ht : t < 8) : EvM kM_many [.ref 24, .int (nI t)] (mk S R) (some (.int (nI (tOf row (nI t) 12)))) (mk S R) := by
  rw [show tOf row (nI t) 12 = cnt (fun i => hs row (t * 12 + i)) 12 from cnt_congr (fun i hi => tHas_nI ht hi)]
  refine EvM_mk [some (.ref 24), some (.int (nI t)), none, none] rfl rfl rfl rfl rfl (trivial) ?_
  refine G_iconst rfl ?_
  refine H_ist_4_2 rfl rfl ?_
  refine G_iconst rfl ?_
  refine H_ist_4_3 rfl rfl ?_
  refine down 12 (fun i => Gm kM_many 4 [some (.ref 24), some (.int (nI t)), some (.int (nI (cnt (fun i => hs row (t * 12 + i)) i))), some (.int (nI i))] [] (S, PF R, 32) _ _) ?_ (fun i hi ih => ?_)
  · skip
    refine G_iload_n rfl rfl ?_
    refine G_bipush rfl ?_
    refine G_icmp_ge rfl (fun h => ?_) (fun h => ?_)
    · skip
      refine G_iload_n rfl rfl ?_
      exact H_ret rfl rfl (rfl) (rfl)
    · exact absurd (by decide) h
  · skip
    refine G_iload_n rfl rfl ?_
    refine G_bipush rfl ?_
    refine G_icmp_ge rfl (fun h => ?_) (fun h => ?_)
    · exact absurd h (ge_no hi (by decide))
    refine G_iload_n rfl rfl ?_
    refine G_aload_n rfl rfl ?_
    refine G_iload_n rfl rfl ?_
    refine G_iload_n rfl rfl ?_
    refine H_callV (ev_mhas S R hC.cs ht hi) rfl rfl rfl rfl rfl rfl rfl rfl ?_
    refine G_if_eq rfl (fun h1 => ?_) (fun h1 => ?_)
    · skip
      refine G_iconst rfl ?_
      refine G_iadd rfl ?_
      refine H_ist_4_2 rfl rfl ?_
      refine H_inc_4_3 rfl rfl ?_
      refine G_goto rfl ?_
      rw [cnt_f (n := i) (f := fun i => hs row (t * 12 + i)) (b2i_0.mp h1), nI_succ i, ← Int32.add_zero (nI (cnt (fun i => hs row (t * 12 + i)) i))] at ih
      exact ih
    · skip
      refine G_iconst rfl ?_
      refine G_goto rfl ?_
      refine G_iadd rfl ?_
      refine H_ist_4_2 rfl rfl ?_
      refine H_inc_4_3 rfl rfl ?_
      refine G_goto rfl ?_
      rw [cnt_t (n := i) (f := fun i => hs row (t * 12 + i)) (b2i_n0.mp h1), nI_succ i, nI_succ] at ih
      exact ih
set_option maxRecDepth 100000 in
theorem ev_mcopies {q1 q2 n1 n2 A B : Nat} (hne : q1 ≠ q2) (h1 : KT q1 = (0, n1)) (h2 : KT q2 = (0, n2)) (b1 : Nat.blt q1 32 = true) (b2 : Nat.blt q2 32 = true) (hA : A + 102 ≤ n1) (hB : B + 102 ≤ n2) : EvM kM_copies [.ref q1, .int (nI A), .ref q2, .int (nI B)] (mk S R) none (mk (u2 S q2 (cpA (S q1) A (S q2) B 102)) R) := by
  refine EvM_mk [some (.ref q1), some (.int (nI A)), some (.ref q2), some (.int (nI B)), none] rfl rfl rfl rfl rfl (trivial) ?_
  refine G_iconst rfl ?_
  refine H_ist_5_4 rfl rfl ?_
  have goal : Gm kM_copies 3 [some (.ref q1), some (.int (nI A)), some (.ref q2), some (.int (nI B)), some (.int (nI 0))] [] (u2 S q2 (cpA (S q1) A (S q2) B 0), PF R, 32) none (u2 S q2 (cpA (S q1) A (S q2) B 102), PF R, 32) := by
    refine down 102 (fun i => Gm kM_copies 3 [some (.ref q1), some (.int (nI A)), some (.ref q2), some (.int (nI B)), some (.int (nI i))] [] (u2 S q2 (cpA (S q1) A (S q2) B i), PF R, 32) _ _) ?_ (fun i hi ih => ?_)
    · skip
      refine G_iload rfl rfl ?_
      refine G_bipush rfl ?_
      refine G_icmp_ge rfl (fun h => ?_) (fun h => ?_)
      · skip
        exact H_retv rfl rfl (rfl)
      · exact absurd (by decide) h
    · skip
      refine G_iload rfl rfl ?_
      refine G_bipush rfl ?_
      refine G_icmp_ge rfl (fun h => ?_) (fun h => ?_)
      · exact absurd h (ge_no hi (by decide))
      refine G_aload_n rfl rfl ?_
      refine G_iload_n rfl rfl ?_
      refine G_iload rfl rfl ?_
      refine G_iadd rfl ?_
      refine G_aload_n rfl rfl ?_
      refine G_iload_n rfl rfl ?_
      refine G_iload rfl rfl ?_
      refine G_iadd rfl ?_
      refine H_iald rfl ((nI_add A i)) (h1) ((by omega)) (b1) ?_
      refine H_iast rfl ((nI_add B i)) (h2) ((by omega)) (b2) ?_
      refine H_inc_5_4 rfl rfl ?_
      refine G_goto rfl ?_
      rw [u2_ne hne, u2_same, u2_u2, cpA_s]
      rw [nI_succ] at ih
      exact ih
  rw [cpA_0, u2_self] at goal
  exact goal
theorem CR_ref (hC : CR row T (S 25)) : CR (upd row 98 (row 98 + 1)) T (upd (S 25) 3 (S 25 3 + 1)) := by
  obtain ⟨h1, h2, h3, h4, h5, h6, h7, h8, h9⟩ := hC
  have e : ∀ i, i ≠ 98 → hs (upd row 98 (row 98 + 1)) i = hs row i := fun i hi => by rw [hs_up2, if_neg hi]
  refine ⟨NT_u (Or.inl (by decide)) h1, fun i hi hh => ?_, h3, ?_, h5, ?_, h7, h8, fun i hi => ?_⟩
  · rw [e i (by omega)] at hh
    rw [upd_ne (by omega)]
    exact h2 i hi hh
  · rw [upd_ne (by omega), h4, cnt_congr (fun i hi => e i (by omega))]
  · rw [upd_same, upd_same, h6]
  · rw [upd_ne (by omega), upd_ne (by omega)]
    exact h9 i hi
set_option maxRecDepth 100000 in
theorem ev_mrefuses (x : Int32) : EvM kM_refuses [.ref 24, .int x] (mk S R) (some (.int x)) (mk (u2 S 25 (upd (S 25) 3 (S 25 3 + 1))) R) := by
  have e3 : (3 : Int32) = nI 3 := rfl
  refine EvM_mk [some (.ref 24), some (.int x)] rfl rfl rfl rfl rfl (trivial) ?_
  refine G_aload_n rfl rfl ?_
  refine H_getR rfl rfl rfl rfl rfl rfl ?_
  refine G_iconst rfl ?_
  refine G_dup2 rfl rfl rfl ?_
  refine H_iald rfl (e3) (rfl) ((by decide)) (rfl) ?_
  refine G_iconst rfl ?_
  refine G_iadd rfl ?_
  refine H_iast rfl (e3) (rfl) ((by decide)) (rfl) ?_
  refine G_iload_n rfl rfl ?_
  exact H_ret rfl rfl (rfl) (rfl)
end MB
