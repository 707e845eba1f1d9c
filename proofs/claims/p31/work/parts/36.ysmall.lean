/-! the law's small helpers: low, many, look -/
theorem nI_div {a b : Nat} (ha : a < 2 ^ 31) (hb : b < 2 ^ 31) : nI a / nI b = nI (a / b) := by
  have h2 : a / b < 2 ^ 31 := Nat.lt_of_le_of_lt (Nat.div_le_self a b) ha
  apply Int32.toInt_inj.mp
  rw [Int32.toInt_div, nI_toInt ha, nI_toInt hb, nI_toInt h2, ← Int.ofNat_tdiv]
  generalize a / b = q at h2 ⊢
  exact Int.bmod_eq_of_le (by omega) (by omega)
theorem nI_mulI (a b : Nat) : nI a * nI b = nI (a * b) := (Int32.ofNat_mul a b).symm
theorem nI_subI {a b : Nat} (h : b ≤ a) : nI a - nI b = nI (a - b) := by
  have e : nI a = nI (a - b) + nI b := by rw [nI_add, Nat.sub_add_cancel h]
  rw [e]
  grind
theorem nI_rem {a b : Nat} (ha : a < 2 ^ 31) (hb : b < 2 ^ 31) : nI a - nI a / nI b * nI b = nI (a % b) := by
  rw [nI_div ha hb, nI_mulI, nI_subI (Nat.div_mul_le_self a b), Nat.mod_eq_sub_div_mul]
theorem and_pos (v : Int32) : ¬ v &&& 2147483647 < 0 := by
  rw [Int32.lt_iff_toInt_lt, Int.not_lt]
  show (0 : Int) ≤ (v &&& 2147483647).toBitVec.toInt
  apply BitVec.toInt_nonneg_of_msb_false
  rw [Int32.toBitVec_and, BitVec.msb_and]
  rw [show (2147483647 : Int32).toBitVec.msb = false by decide, Bool.and_false]
/-- what low answers -/
def lw (v : Int32) (n : Nat) : Nat := (v &&& 2147483647).toNatClampNeg % n
theorem lw_lt {v : Int32} {n : Nat} (h : 0 < n) : lw v n < n := Nat.mod_lt _ h
section LOW
variable {S0 : Sf} {R : Rf} {T n m : Nat} {π : Nat → Int32} {t p : Nat}
theorem lk_low {N : Nat} (h0 : 0 < N) (hn : N < 2 ^ 31) (x : Int32) : LM S0 R kLaw_low [.int x, .int (nI N)] (.int (nI (lw x N))) := by
  obtain ⟨j, hj, e⟩ := nI_of (and_pos x)
  have e2 : lw x N = j % N := by unfold lw; rw [e, nI_clamp hj]
  refine LM_mk [some (.int x), some (.int (nI N))] rfl rfl rfl rfl rfl (trivial) ?_
  refine Y_iload_n rfl rfl ?_
  refine Y_ldc rfl ?_
  refine Y_iand rfl ?_
  refine Y_iload_n rfl rfl ?_
  refine Y_irem rfl (nI_ne0 h0 hn) ?_
  exact Y_ret rfl rfl (fun S hS => ⟨by rw [e2, ← nI_rem hj hn, ← e], hS, rfl⟩)
theorem lk_many (hG : GR (S0 2) T) (ht : t < T) : LM S0 R kLaw_many [.ref 0, .int (nI t)] (.int (nI (tOf (S0 2) (nI t) 12))) := by
  have h8 := hG.1.2.1
  refine LM_mk [some (.ref 0), some (.int (nI t)), none, none] rfl rfl rfl rfl rfl (trivial) ?_
  refine Y_iconst rfl ?_
  refine Y_ist_4_2 rfl rfl ?_
  refine Y_iconst rfl ?_
  refine Y_ist_4_3 rfl rfl ?_
  refine down 12 (fun i => Y 0 (fun _ => 0) kLaw_many 24 4 [some (.ref 0), some (.int (nI t)), some (.int (nI (tOf (S0 2) (nI t) i))), some (.int (nI i))] [] S0 R _) ?_ (fun i hi ih => ?_)
  · refine Y_iload_n rfl rfl ?_
    refine Y_bipush rfl ?_
    refine Y_icmp_ge_t rfl (Int32.le_refl _) ?_
    refine Y_iload_n rfl rfl ?_
    exact Y_ret rfl rfl (fun S hS => ⟨rfl, hS, rfl⟩)
  · refine Y_iload_n rfl rfl ?_
    refine Y_bipush rfl ?_
    refine Y_icmp_ge_f rfl (nI_ge hi (by decide)) ?_
    refine Y_iload_n rfl rfl ?_
    refine Y_aload_n rfl rfl ?_
    refine Y_iload_n rfl rfl ?_
    refine Y_iload_n rfl rfl ?_
    refine Y_look (lk_reading hG ht hi) rfl rfl rfl rfl rfl ?_
    have e : tHas (S0 2) (nI t) (nI i) = hs (S0 2) (t * 12 + i) := tHas_nI (by omega) hi
    cases hh : hs (S0 2) (t * 12 + i) with
    | true =>
      refine Y_bipush rfl ?_
      refine Y_icmp_ne_t rfl (rv_ne hG.2.1 (by omega) hh) ?_
      refine Y_iconst rfl ?_
      refine Y_iadd rfl ?_
      refine Y_ist_4_2 rfl rfl ?_
      refine Y_inc_4_3 rfl rfl ?_
      refine Y_goto rfl ?_
      rw [show tOf (S0 2) (nI t) (i + 1) = tOf (S0 2) (nI t) i + 1 from cnt_t (e.trans hh), nI_succ, nI_succ] at ih
      exact ih
    | false =>
      refine Y_bipush rfl ?_
      refine Y_icmp_ne_f rfl (rv_f hh) ?_
      refine Y_iconst rfl ?_
      refine Y_goto rfl ?_
      refine Y_iadd rfl ?_
      refine Y_ist_4_2 rfl rfl ?_
      refine Y_inc_4_3 rfl rfl ?_
      refine Y_goto rfl ?_
      rw [show tOf (S0 2) (nI t) (i + 1) = tOf (S0 2) (nI t) i from cnt_f (e.trans hh), nI_succ] at ih
      rw [show nI (tOf (S0 2) (nI t) i) + 0 = nI (tOf (S0 2) (nI t) i) from Int32.add_zero _]
      exact ih
/-- what look answers -/
noncomputable def lkc (row : Nat → Int32) (T k : Nat) : Int32 := if k < 2 ∨ 5 < k then a_countN row (fun _ => 0) T 0 0 k else 0
noncomputable def lkC (row : Nat → Int32) (T : Nat) : Nat → Int64
  | 0 => (457 : Int32).toInt64
  | k + 1 => (31 : Int32).toInt64 * lkC row T k + (lkc row T k).toInt64
def lkR (row : Nat → Int32) (h : Int64) : Nat → Int64
  | 0 => h
  | j + 1 => (31 : Int32).toInt64 * lkR row h j + (rv row j).toInt64
noncomputable def lookV (row : Nat → Int32) (T : Nat) : Int64 := lkR row (lkC row T 12) (12 * T)
theorem a_countN_any {row π : Nat → Int32} {k : Nat} (hk : k < 12) (h5 : k ≠ 5) : a_countN row π T n m k = a_countN row (fun _ => 0) T 0 0 k := by
  rcases (show k = 0 ∨ k = 1 ∨ k = 2 ∨ k = 3 ∨ k = 4 ∨ k = 6 ∨ k = 7 ∨ k = 8 ∨ k = 9 ∨ k = 10 ∨ k = 11 by omega) with rfl | rfl | rfl | rfl | rfl | rfl | rfl | rfl | rfl | rfl | rfl <;> simp only [a_countN]
theorem lk_look (hG : GR (S0 2) T) (hπ : Pot (S0 2) π) (hn : S0 10 1 = nI n) (hm : S0 3 1 = nI m) : LM S0 R kLaw_look [.ref 0] (.long (lookV (S0 2) T)) := by
  have h8 := hG.1.2.1
  refine LM_mk [some (.ref 0), none, none, none] rfl rfl rfl rfl rfl (trivial) ?_
  refine Y_ldc2l rfl ?_
  refine Y_lst_4_1 rfl rfl ?_
  refine Y_iconst rfl ?_
  refine Y_ist_4_3 rfl rfl ?_
  refine down 12 (fun i => Y 0 (fun _ => 0) kLaw_look 24 6 [some (.ref 0), some (.long (lkC (S0 2) T i)), none, some (.int (nI i))] [] S0 R _) ?_ (fun i hi ih => ?_)
  · refine Y_iload_n rfl rfl ?_
    refine Y_bipush rfl ?_
    refine Y_icmp_ge_t rfl (Int32.le_refl _) ?_
    refine Y_iconst rfl ?_
    refine Y_ist_4_3 rfl rfl ?_
    refine down (12 * T) (fun i => Y 0 (fun _ => 0) kLaw_look 24 47 [some (.ref 0), some (.long (lkR (S0 2) (lkC (S0 2) T 12) i)), none, some (.int (nI i))] [] S0 R _) ?_ (fun i hi ih => ?_)
    · refine Y_iload_n rfl rfl ?_
      refine Y_bipush rfl ?_
      refine Y_aload_n rfl rfl ?_
      refine Y_iconst rfl ?_
      refine Y_look (lk_c0 hG hπ hn hm) rfl rfl rfl rfl rfl ?_
      refine Y_imul rfl ?_
      refine Y_icmp_ge_t rfl ((by rw [show (12 : Int32) * nI T = nI (12 * T) from nI_mulI 12 T]; exact Int32.le_refl _)) ?_
      refine Y_lload_n rfl rfl ?_
      exact Y_ret rfl rfl (fun S hS => ⟨rfl, hS, rfl⟩)
    · refine Y_iload_n rfl rfl ?_
      refine Y_bipush rfl ?_
      refine Y_aload_n rfl rfl ?_
      refine Y_iconst rfl ?_
      refine Y_look (lk_c0 hG hπ hn hm) rfl rfl rfl rfl rfl ?_
      refine Y_imul rfl ?_
      refine Y_icmp_ge_f rfl ((by rw [show (12 : Int32) * nI T = nI (12 * T) from nI_mulI 12 T]; exact nI_ge hi (by omega))) ?_
      refine Y_ldc2l rfl ?_
      refine Y_lload_n rfl rfl ?_
      refine Y_lmul rfl ?_
      refine Y_aload_n rfl rfl ?_
      refine Y_iload_n rfl rfl ?_
      refine Y_bipush rfl ?_
      refine Y_idiv rfl (by decide) ?_
      refine Y_iload_n rfl rfl ?_
      refine Y_bipush rfl ?_
      refine Y_irem rfl (by decide) ?_
      refine Y_v (y := nI (i % 12)) (nI_rem (a := i) (b := 12) (by omega) (by decide)) ?_
      refine Y_v1 (y := nI (i / 12)) (nI_div (a := i) (b := 12) (by omega) (by decide)) ?_
      refine Y_look (lk_reading hG (t := i / 12) (p := i % 12) (by omega) (by omega)) rfl rfl rfl rfl rfl ?_
      refine Y_i2l rfl ?_
      refine Y_ladd rfl ?_
      refine Y_lst_4_1 rfl rfl ?_
      refine Y_inc_4_3 rfl rfl ?_
      refine Y_goto rfl ?_
      rw [lkR, nI_succ] at ih
      rw [show i / 12 * 12 + i % 12 = i by omega]
      exact ih
  · refine Y_iload_n rfl rfl ?_
    refine Y_bipush rfl ?_
    refine Y_icmp_ge_f rfl (nI_ge hi (by decide)) ?_
    have big : (i < 2 ∨ 5 < i) → Y 0 (fun _ => 0) kLaw_look 24 27 [some (.ref 0), some (.long (lkC (S0 2) T i)), none, some (.int (nI i))] [.long ((31 : Int32).toInt64 * lkC (S0 2) T i)] S0 R (fun r S' R' => r = some (.long (lookV (S0 2) T)) ∧ LK S0 S' ∧ R' = R) := fun hb => by
      refine Y_aload_n rfl rfl ?_
      refine Y_iload_n rfl rfl ?_
      refine Y_look (lk_cN hG hπ hn hm (w := i) (by omega)) rfl rfl rfl rfl rfl ?_
      refine Y_goto rfl ?_
      refine Y_i2l rfl ?_
      refine Y_ladd rfl ?_
      refine Y_lst_4_1 rfl rfl ?_
      refine Y_inc_4_3 rfl rfl ?_
      refine Y_goto rfl ?_
      rw [lkC, lkc, if_pos hb, nI_succ] at ih
      rw [a_countN_any hi (by omega)]
      exact ih
    by_cases h2 : i < 2
    · refine Y_ldc2l rfl ?_
      refine Y_lload_n rfl rfl ?_
      refine Y_lmul rfl ?_
      refine Y_iload_n rfl rfl ?_
      refine Y_iconst rfl ?_
      refine Y_icmp_lt_t rfl (nI_lt (b := 2) h2 (by decide)) ?_
      exact big (Or.inl h2)
    · refine Y_ldc2l rfl ?_
      refine Y_lload_n rfl rfl ?_
      refine Y_lmul rfl ?_
      refine Y_iload_n rfl rfl ?_
      refine Y_iconst rfl ?_
      refine Y_icmp_lt_f rfl (nI_nlt (b := 2) (by omega) (by omega)) ?_
      by_cases h5 : 5 < i
      · refine Y_iload_n rfl rfl ?_
        refine Y_iconst rfl ?_
        refine Y_icmp_le_f rfl (nI_ge (b := i) (a := 5) h5 (by omega)) ?_
        exact big (Or.inr h5)
      · refine Y_iload_n rfl rfl ?_
        refine Y_iconst rfl ?_
        refine Y_icmp_le_t rfl (nI_le (b := 5) (by omega) (by decide)) ?_
        refine Y_iconst rfl ?_
        refine Y_i2l rfl ?_
        refine Y_ladd rfl ?_
        refine Y_lst_4_1 rfl rfl ?_
        refine Y_inc_4_3 rfl rfl ?_
        refine Y_goto rfl ?_
        rw [lkC, lkc, if_neg (by omega), nI_succ] at ih
        exact ih
end LOW
