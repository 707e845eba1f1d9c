/-! straight stretches by computation: one step of the abstract machine -/
abbrev Cf : Type := Nat × Lc × List Value × St
def sA0 (nx a b : Nat) (v : Int32) (ls : Lc) (st : List Value) (σ : St) : Option Cf := some (nx, ls, .int v :: st, σ)
def sA1 (nx a b : Nat) (v : Int32) (ls : Lc) (st : List Value) (σ : St) : Option Cf := some (nx, ls, .int v :: st, σ)
def sA2 (nx a b : Nat) (v : Int32) (ls : Lc) (st : List Value) (σ : St) : Option Cf := some (nx, ls, .int v :: st, σ)
def sA3 (nx a b : Nat) (v : Int32) (ls : Lc) (st : List Value) (σ : St) : Option Cf := some (nx, ls, .int v :: st, σ)
def sA4 (nx a b : Nat) (v : Int32) (ls : Lc) (st : List Value) (σ : St) : Option Cf := match ls[a]? with
  | some (some (.int x)) => some (nx, ls, .int x :: st, σ)
  | _ => none
def sA5 (nx a b : Nat) (v : Int32) (ls : Lc) (st : List Value) (σ : St) : Option Cf := match ls[a]? with
  | some (some (.int x)) => some (nx, ls, .int x :: st, σ)
  | _ => none
def sA6 (nx a b : Nat) (v : Int32) (ls : Lc) (st : List Value) (σ : St) : Option Cf := match ls[a]? with
  | some (some (.ref x)) => some (nx, ls, .ref x :: st, σ)
  | _ => none
def sA7 (nx a b : Nat) (v : Int32) (ls : Lc) (st : List Value) (σ : St) : Option Cf := match ls[a]? with
  | some (some (.ref x)) => some (nx, ls, .ref x :: st, σ)
  | _ => none
def sA9 (nx a b : Nat) (v : Int32) (ls : Lc) (st : List Value) (σ : St) : Option Cf := match st with
  | .int x :: r => bif ndb ls a then some (nx, ls.set a (some (.int x)), r, σ) else none
  | _ => none
def sA10 (nx a b : Nat) (v : Int32) (ls : Lc) (st : List Value) (σ : St) : Option Cf := match st with
  | .int x :: r => bif ndb ls a then some (nx, ls.set a (some (.int x)), r, σ) else none
  | _ => none
def sA11 (nx a b : Nat) (v : Int32) (ls : Lc) (st : List Value) (σ : St) : Option Cf := match st with
  | .ref x :: r => bif ndb ls a then some (nx, ls.set a (some (.ref x)), r, σ) else none
  | _ => none
def sA14 (nx a b : Nat) (v : Int32) (ls : Lc) (st : List Value) (σ : St) : Option Cf := match ls[a]? with
  | some (some (.int x)) => bif ndb ls a then some (nx, ls.set a (some (.int (x + v))), st, σ) else none
  | _ => none
def sA15 (nx a b : Nat) (v : Int32) (ls : Lc) (st : List Value) (σ : St) : Option Cf := match st with
  | .int y :: .int x :: r => some (nx, ls, .int (x + y) :: r, σ)
  | _ => none
def sA16 (nx a b : Nat) (v : Int32) (ls : Lc) (st : List Value) (σ : St) : Option Cf := match st with
  | .int y :: .int x :: r => some (nx, ls, .int (x - y) :: r, σ)
  | _ => none
def sA17 (nx a b : Nat) (v : Int32) (ls : Lc) (st : List Value) (σ : St) : Option Cf := match st with
  | .int y :: .int x :: r => some (nx, ls, .int (x * y) :: r, σ)
  | _ => none
def sA20 (nx a b : Nat) (v : Int32) (ls : Lc) (st : List Value) (σ : St) : Option Cf := match st with
  | .int x :: r => some (nx, ls, .int (-x) :: r, σ)
  | _ => none
def sA21 (nx a b : Nat) (v : Int32) (ls : Lc) (st : List Value) (σ : St) : Option Cf := match st with
  | .int y :: .int x :: r => some (nx, ls, .int (x &&& y) :: r, σ)
  | _ => none
def sA26 (nx a b : Nat) (v : Int32) (ls : Lc) (st : List Value) (σ : St) : Option Cf := match st with
  | .int x :: r => some (nx, ls, .int x :: .int x :: r, σ)
  | .ref x :: r => some (nx, ls, .ref x :: .ref x :: r, σ)
  | _ => none
def sA27 (nx a b : Nat) (v : Int32) (ls : Lc) (st : List Value) (σ : St) : Option Cf := match st with
  | .int x :: .ref y :: r => some (nx, ls, .int x :: .ref y :: .int x :: .ref y :: r, σ)
  | _ => none
def sA28 (nx a b : Nat) (v : Int32) (ls : Lc) (st : List Value) (σ : St) : Option Cf := some (nx, ls, st, σ)
def sA43 (nx a b : Nat) (v : Int32) (ls : Lc) (st : List Value) (σ : St) : Option Cf := match st with
  | .ref i :: r => bif Nat.blt i σ.2.2 && Nat.beq (KT i).1 3 && Nat.beq (KT i).2 a then
      (match cR a b with
        | true => match σ.2.1 i b with
          | some q => bif Nat.blt q 1000 then some (nx, ls, .ref q :: r, σ) else none
          | none => none
        | false => some (nx, ls, .int (σ.1 i b) :: r, σ)) else none
  | _ => none
def sA44 (nx a b : Nat) (v : Int32) (ls : Lc) (st : List Value) (σ : St) : Option Cf := match st with
  | .int x :: .ref i :: r => bif Nat.blt i σ.2.2 && Nat.beq (KT i).1 3 && Nat.beq (KT i).2 a && pfOK (cY a b) x then
      some (nx, ls, r, (u2 σ.1 i (upd (σ.1 i) b x), σ.2)) else none
  | _ => none
def sA52 (nx a b : Nat) (v : Int32) (ls : Lc) (st : List Value) (σ : St) : Option Cf := match st with
  | .ref i :: r => bif Nat.blt i σ.2.2 && Nat.beq (KT i).1 0 then some (nx, ls, .int (nI (KT i).2) :: r, σ) else none
  | _ => none
def stpA (op nx a b : Nat) (v : Int32) (ls : Lc) (st : List Value) (σ : St) : Option Cf := match op with
  | 0 => sA0 nx a b v ls st σ
  | 1 => sA1 nx a b v ls st σ
  | 2 => sA2 nx a b v ls st σ
  | 3 => sA3 nx a b v ls st σ
  | 4 => sA4 nx a b v ls st σ
  | 5 => sA5 nx a b v ls st σ
  | 6 => sA6 nx a b v ls st σ
  | 7 => sA7 nx a b v ls st σ
  | 9 => sA9 nx a b v ls st σ
  | 10 => sA10 nx a b v ls st σ
  | 11 => sA11 nx a b v ls st σ
  | 14 => sA14 nx a b v ls st σ
  | 15 => sA15 nx a b v ls st σ
  | 16 => sA16 nx a b v ls st σ
  | 17 => sA17 nx a b v ls st σ
  | 20 => sA20 nx a b v ls st σ
  | 21 => sA21 nx a b v ls st σ
  | 26 => sA26 nx a b v ls st σ
  | 27 => sA27 nx a b v ls st σ
  | 28 => sA28 nx a b v ls st σ
  | 43 => sA43 nx a b v ls st σ
  | 44 => sA44 nx a b v ls st σ
  | 52 => sA52 nx a b v ls st σ
  | _ => none
def stp (k : Nat) (q : Cf) : Option Cf := stpA (ct k q.1).1 (ct k q.1).2.1 (ct k q.1).2.2.1 (ct k q.1).2.2.2.1 (ct k q.1).2.2.2.2.2.2 q.2.1 q.2.2.1 q.2.2.2
section STP
variable {L : Nat} {xs : Nat → Int32} {k n0 pc : Nat} {ls : Lc} {st : List Value} {σ σE : St} {r : Option Value}
theorem G_stpA {op nx a b wp ix : Nat} {v : Int32} {c' : Cf} (hc : ct k pc = (op, nx, a, b, wp, ix, v)) (h : stpA op nx a b v ls st σ = some c') (kk : G L xs k n0 c'.1 c'.2.1 c'.2.2.1 c'.2.2.2 r σE) : G L xs k n0 pc ls st σ r σE := by
  match op, hc, h with
  | 0, hc, h =>
    have h : sA0 nx a b v ls st σ = some c' := h
    unfold sA0 at h
    cases h; exact G_iconst hc kk
  | 1, hc, h =>
    have h : sA1 nx a b v ls st σ = some c' := h
    unfold sA1 at h
    cases h; exact G_bipush hc kk
  | 2, hc, h =>
    have h : sA2 nx a b v ls st σ = some c' := h
    unfold sA2 at h
    cases h; exact G_sipush hc kk
  | 3, hc, h =>
    have h : sA3 nx a b v ls st σ = some c' := h
    unfold sA3 at h
    cases h; exact G_ldc hc kk
  | 4, hc, h =>
    have h : sA4 nx a b v ls st σ = some c' := h
    unfold sA4 at h
    split at h
    · rename_i hl; cases h; exact G_iload_n hc hl kk
    · cases h
  | 5, hc, h =>
    have h : sA5 nx a b v ls st σ = some c' := h
    unfold sA5 at h
    split at h
    · rename_i hl; cases h; exact G_iload hc hl kk
    · cases h
  | 6, hc, h =>
    have h : sA6 nx a b v ls st σ = some c' := h
    unfold sA6 at h
    split at h
    · rename_i hl; cases h; exact G_aload_n hc hl kk
    · cases h
  | 7, hc, h =>
    have h : sA7 nx a b v ls st σ = some c' := h
    unfold sA7 at h
    split at h
    · rename_i hl; cases h; exact G_aload hc hl kk
    · cases h
  | 9, hc, h =>
    have h : sA9 nx a b v ls st σ = some c' := h
    unfold sA9 at h
    split at h
    · cases hn : ndb ls a with
      | false => rw [hn] at h; cases h
      | true => rw [hn] at h; cases h; exact G_istore_n hc hn kk
    · cases h
  | 10, hc, h =>
    have h : sA10 nx a b v ls st σ = some c' := h
    unfold sA10 at h
    split at h
    · cases hn : ndb ls a with
      | false => rw [hn] at h; cases h
      | true => rw [hn] at h; cases h; exact G_istore hc hn kk
    · cases h
  | 11, hc, h =>
    have h : sA11 nx a b v ls st σ = some c' := h
    unfold sA11 at h
    split at h
    · cases hn : ndb ls a with
      | false => rw [hn] at h; cases h
      | true => rw [hn] at h; cases h; exact G_astore_n hc hn kk
    · cases h
  | 14, hc, h =>
    have h : sA14 nx a b v ls st σ = some c' := h
    unfold sA14 at h
    split at h
    · rename_i hl
      cases hn : ndb ls a with
      | false => rw [hn] at h; cases h
      | true => rw [hn] at h; cases h; exact G_iinc hc hl hn kk
    · cases h
  | 15, hc, h =>
    have h : sA15 nx a b v ls st σ = some c' := h
    unfold sA15 at h
    split at h
    · cases h; exact G_iadd hc kk
    · cases h
  | 16, hc, h =>
    have h : sA16 nx a b v ls st σ = some c' := h
    unfold sA16 at h
    split at h
    · cases h; exact G_isub hc kk
    · cases h
  | 17, hc, h =>
    have h : sA17 nx a b v ls st σ = some c' := h
    unfold sA17 at h
    split at h
    · cases h; exact G_imul hc kk
    · cases h
  | 20, hc, h =>
    have h : sA20 nx a b v ls st σ = some c' := h
    unfold sA20 at h
    split at h
    · cases h; exact G_ineg hc kk
    · cases h
  | 21, hc, h =>
    have h : sA21 nx a b v ls st σ = some c' := h
    unfold sA21 at h
    split at h
    · cases h; exact G_iand hc kk
    · cases h
  | 26, hc, h =>
    have h : sA26 nx a b v ls st σ = some c' := h
    unfold sA26 at h
    split at h
    · cases h; exact G_dup hc rfl kk
    · cases h; exact G_dup hc rfl kk
    · cases h
  | 27, hc, h =>
    have h : sA27 nx a b v ls st σ = some c' := h
    unfold sA27 at h
    split at h
    · cases h; exact G_dup2 hc rfl rfl kk
    · cases h
  | 28, hc, h =>
    have h : sA28 nx a b v ls st σ = some c' := h
    unfold sA28 at h
    cases h; exact G_goto hc kk
  | 43, hc, h =>
    have h : sA43 nx a b v ls st σ = some c' := h
    unfold sA43 at h
    rcases st with _ | ⟨w1, r1⟩
    · cases h
    rcases w1 with _ | _ | _ | _ | _ | i | _ <;> first | (cases h; done) | skip
    dsimp only at h
    cases hq : (Nat.blt i σ.2.2 && Nat.beq (KT i).1 3 && Nat.beq (KT i).2 a) with
      | false => rw [hq] at h; cases h
      | true =>
        rw [hq, cond_true] at h
        simp only [Bool.and_eq_true] at hq
        have hK : KT i = (3, a) := Prod.ext (Nat.eq_of_beq_eq_true hq.1.2) (Nat.eq_of_beq_eq_true hq.2)
        split at h
        · rename_i hcr
          split at h
          · rename_i q hp
            cases hq2 : Nat.blt q 1000 with
            | false => rw [hq2] at h; cases h
            | true =>
              rw [hq2] at h; cases h
              exact G_getfield (w := .ref q) hc hq.1.1 hK (by rw [hcr, cond_true, hp]; rfl) hq2 kk
          · cases h
        · rename_i hcr
          cases h
          exact G_getfield (w := .int (σ.1 i b)) hc hq.1.1 hK (by rw [hcr, cond_false]) rfl kk
  | 44, hc, h =>
    have h : sA44 nx a b v ls st σ = some c' := h
    unfold sA44 at h
    rcases st with _ | ⟨w1, r1⟩
    · cases h
    rcases w1 with x | _ | _ | _ | _ | _ | _ <;> first | (cases h; done) | skip
    rcases r1 with _ | ⟨w2, r1⟩
    · cases h
    rcases w2 with _ | _ | _ | _ | _ | i | _ <;> first | (cases h; done) | skip
    dsimp only at h
    cases hq : (Nat.blt i σ.2.2 && Nat.beq (KT i).1 3 && Nat.beq (KT i).2 a && pfOK (cY a b) x) with
      | false => rw [hq] at h; cases h
      | true =>
        rw [hq, cond_true] at h
        simp only [Bool.and_eq_true] at hq
        have hK : KT i = (3, a) := Prod.ext (Nat.eq_of_beq_eq_true hq.1.1.2) (Nat.eq_of_beq_eq_true hq.1.2)
        cases h
        exact G_putfield hc hq.1.1.1 hK hq.2 kk
  | 52, hc, h =>
    have h : sA52 nx a b v ls st σ = some c' := h
    unfold sA52 at h
    rcases st with _ | ⟨w1, r1⟩
    · cases h
    rcases w1 with _ | _ | _ | _ | _ | i | _ <;> first | (cases h; done) | skip
    dsimp only at h
    cases hq : (Nat.blt i σ.2.2 && Nat.beq (KT i).1 0) with
      | false => rw [hq] at h; cases h
      | true =>
        rw [hq, cond_true] at h
        simp only [Bool.and_eq_true] at hq
        have hK : KT i = (0, (KT i).2) := Prod.ext (Nat.eq_of_beq_eq_true hq.2) rfl
        cases h
        exact G_alen hc hK hq.1 kk
  | 8, hc, h => exact absurd (show none = some c' from h) (fun q => by cases q)
  | 12, hc, h => exact absurd (show none = some c' from h) (fun q => by cases q)
  | 13, hc, h => exact absurd (show none = some c' from h) (fun q => by cases q)
  | 18, hc, h => exact absurd (show none = some c' from h) (fun q => by cases q)
  | 19, hc, h => exact absurd (show none = some c' from h) (fun q => by cases q)
  | 22, hc, h => exact absurd (show none = some c' from h) (fun q => by cases q)
  | 23, hc, h => exact absurd (show none = some c' from h) (fun q => by cases q)
  | 24, hc, h => exact absurd (show none = some c' from h) (fun q => by cases q)
  | 25, hc, h => exact absurd (show none = some c' from h) (fun q => by cases q)
  | 29, hc, h => exact absurd (show none = some c' from h) (fun q => by cases q)
  | 30, hc, h => exact absurd (show none = some c' from h) (fun q => by cases q)
  | 31, hc, h => exact absurd (show none = some c' from h) (fun q => by cases q)
  | 32, hc, h => exact absurd (show none = some c' from h) (fun q => by cases q)
  | 33, hc, h => exact absurd (show none = some c' from h) (fun q => by cases q)
  | 34, hc, h => exact absurd (show none = some c' from h) (fun q => by cases q)
  | 35, hc, h => exact absurd (show none = some c' from h) (fun q => by cases q)
  | 36, hc, h => exact absurd (show none = some c' from h) (fun q => by cases q)
  | 37, hc, h => exact absurd (show none = some c' from h) (fun q => by cases q)
  | 38, hc, h => exact absurd (show none = some c' from h) (fun q => by cases q)
  | 39, hc, h => exact absurd (show none = some c' from h) (fun q => by cases q)
  | 40, hc, h => exact absurd (show none = some c' from h) (fun q => by cases q)
  | 41, hc, h => exact absurd (show none = some c' from h) (fun q => by cases q)
  | 42, hc, h => exact absurd (show none = some c' from h) (fun q => by cases q)
  | 45, hc, h => exact absurd (show none = some c' from h) (fun q => by cases q)
  | 46, hc, h => exact absurd (show none = some c' from h) (fun q => by cases q)
  | 47, hc, h => exact absurd (show none = some c' from h) (fun q => by cases q)
  | 48, hc, h => exact absurd (show none = some c' from h) (fun q => by cases q)
  | 49, hc, h => exact absurd (show none = some c' from h) (fun q => by cases q)
  | 50, hc, h => exact absurd (show none = some c' from h) (fun q => by cases q)
  | 51, hc, h => exact absurd (show none = some c' from h) (fun q => by cases q)
  | _ + 53, hc, h => exact absurd (show none = some c' from h) (fun q => by cases q)
theorem G_stp {c' : Cf} (h : stp k (pc, ls, st, σ) = some c') (kk : G L xs k n0 c'.1 c'.2.1 c'.2.2.1 c'.2.2.2 r σE) : G L xs k n0 pc ls st σ r σE := G_stpA (wp := (ct k pc).2.2.2.2.1) (ix := (ct k pc).2.2.2.2.2.1) rfl h kk
/-- n steps at once -/
def stpn (k : Nat) : Nat → Cf → Option Cf
  | 0, c => some c
  | n + 1, c => (stp k c).bind (stpn k n)
theorem G_stpn : ∀ (n : Nat) {pc : Nat} {ls : Lc} {st : List Value} {σ : St} {pc' : Nat} {ls' : Lc} {st' : List Value} {σ' : St}, stpn k n (pc, ls, st, σ) = some (pc', ls', st', σ') → G L xs k n0 pc' ls' st' σ' r σE → G L xs k n0 pc ls st σ r σE
  | 0, _, _, _, _, _, _, _, _, h, kk => by
    cases h
    exact kk
  | n + 1, pc, ls, st, σ, pc', ls', st', σ', h, kk => by
    unfold stpn at h
    cases hs : stp k (pc, ls, st, σ) with
    | none => rw [hs] at h; cases h
    | some c =>
      rw [hs, Option.bind_some] at h
      exact G_stp hs (G_stpn n h kk)
end STP
