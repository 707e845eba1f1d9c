/-! small pure rows -/
def b2i (c : Bool) : Int32 := bif c then 1 else 0
theorem okb (c : Bool) : narrow .boolean (.int (b2i c)) = .int (b2i c) := by cases c <;> rfl
theorem b2i_0 {c : Bool} : b2i c = 0 ↔ c = false := by cases c <;> decide
theorem b2i_1 {c : Bool} : b2i c = 1 ↔ c = true := by cases c <;> decide
theorem b2i_n0 {c : Bool} : ¬ b2i c = 0 ↔ c = true := by cases c <;> decide
theorem b2i_t : b2i true = 1 := rfl
theorem b2i_f : b2i false = 0 := rfl
theorem down (N : Nat) (P : Nat → Prop) (hN : P N) (hs : ∀ i, i < N → P (i + 1) → P i) : P 0 := by
  have h : ∀ d, d ≤ N → P (N - d) := by
    intro d
    induction d with
    | zero => intro _; exact hN
    | succ d ih =>
      intro hd
      refine hs _ (by omega) ?_
      rw [show N - (d + 1) + 1 = N - d by omega]
      exact ih (by omega)
  have := h N (Nat.le_refl N)
  rwa [Nat.sub_self] at this
theorem down_from (N : Nat) (P : Nat → Prop) (hN : P N) (hs : ∀ i, i < N → P (i + 1) → P i) (i : Nat) (hi : i ≤ N) : P i := by
  have h : ∀ d, d ≤ N → P (N - d) := by
    intro d
    induction d with
    | zero => intro _; exact hN
    | succ d ih =>
      intro hd
      refine hs _ (by omega) ?_
      rw [show N - (d + 1) + 1 = N - d by omega]
      exact ih (by omega)
  have := h (N - i) (by omega)
  rwa [show N - (N - i) = i by omega] at this
/-- how many of the first n are so -/
def cnt (f : Nat → Bool) : Nat → Nat
  | 0 => 0
  | n + 1 => cnt f n + (bif f n then 1 else 0)
theorem cnt_le (f : Nat → Bool) : ∀ n, cnt f n ≤ n
  | 0 => Nat.le_refl 0
  | n + 1 => by
    have := cnt_le f n
    unfold cnt
    cases f n <;> simp <;> omega
theorem cnt_congr {f g : Nat → Bool} : ∀ {n : Nat}, (∀ i, i < n → f i = g i) → cnt f n = cnt g n
  | 0, _ => rfl
  | n + 1, h => by
    unfold cnt
    rw [cnt_congr (fun i hi => h i (by omega)), h n (by omega)]
theorem cnt_t {f : Nat → Bool} {n : Nat} (h : f n = true) : cnt f (n + 1) = cnt f n + 1 := by simp [cnt, h]
theorem cnt_f {f : Nat → Bool} {n : Nat} (h : f n = false) : cnt f (n + 1) = cnt f n := by simp [cnt, h]
/-- a sum of the first n -/
def sm (f : Nat → Nat) : Nat → Nat
  | 0 => 0
  | n + 1 => sm f n + f n
theorem sm_congr {f g : Nat → Nat} : ∀ {n : Nat}, (∀ i, i < n → f i = g i) → sm f n = sm g n
  | 0, _ => rfl
  | n + 1, h => by
    unfold sm
    rw [sm_congr (fun i hi => h i (by omega)), h n (by omega)]
theorem sm_le {f : Nat → Nat} {c : Nat} : ∀ {n : Nat}, (∀ i, i < n → f i ≤ c) → sm f n ≤ n * c
  | 0, _ => by simp [sm]
  | n + 1, h => by
    have h1 := sm_le (f := f) (c := c) (n := n) (fun i hi => h i (by omega))
    have h2 := h n (by omega)
    have h3 : (n + 1) * c = n * c + c := Nat.succ_mul n c
    unfold sm
    omega
theorem lt_ix {x : Int32} (n : Nat) (hn : n < 2 ^ 31) (h1 : ¬ x < 0) (h2 : ¬ nI n ≤ x) : ∃ j, j < n ∧ x = nI j := by
  rcases pk_ix x hn with h | h | h
  · exact absurd h h1
  · exact absurd h h2
  · exact h
theorem ge_no {i n : Nat} (h : i < n) (hn : n < 2 ^ 31) : ¬ nI n ≤ nI i := nI_ge h hn
theorem upd_same {f : Nat → Int32} {k : Nat} {x : Int32} : upd f k x k = x := by simp [upd]
theorem upd_ne {f : Nat → Int32} {k j : Nat} {x : Int32} (h : j ≠ k) : upd f k x j = f j := by simp [upd, h]
theorem u2_u2 {α : Type} {S : Nat → α} {i : Nat} {f g : α} : u2 (u2 S i f) i g = u2 S i g := by
  funext j
  by_cases h : j = i
  · simp [u2, h]
  · simp [u2, h]
theorem u2_self {α : Type} {S : Nat → α} {i : Nat} : u2 S i (S i) = S := by
  funext j
  by_cases h : j = i
  · subst h; simp [u2]
  · simp [u2, h]
theorem u2_comm {α : Type} {S : Nat → α} {i j : Nat} {f g : α} (h : i ≠ j) : u2 (u2 S i f) j g = u2 (u2 S j g) i f := by
  funext y
  by_cases h1 : y = i
  · subst h1
    simp [u2, h]
  · by_cases h2 : y = j
    · subst h2
      simp [u2, h1]
    · simp [u2, h1, h2]
section RT
variable {L : Nat} {xs : Nat → Int32} {k n0 pc : Nat} {ls : Lc} {S S' : Nat → Nat → Int32} {P : Nat → Nat → Option Nat} {n : Nat}
theorem H_ret {x y : Int32} (h1 : Nat.ble 62 (ct k pc).1 = true) (h2 : Nat.ble (ct k pc).1 65 = true) (e : x = y) (es : S = S') : G L xs k n0 pc ls [.int x] (S, P, n) (some (.int y)) (S', P, n) :=
  G_ret h1 h2 (by rw [e]; rfl) (by rw [es])
theorem H_retv (h1 : Nat.ble 62 (ct k pc).1 = true) (h2 : Nat.ble (ct k pc).1 65 = true) (es : S = S') : G L xs k n0 pc ls [] (S, P, n) none (S', P, n) :=
  G_ret h1 h2 rfl (by rw [es])
end RT
