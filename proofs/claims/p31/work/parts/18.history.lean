/-! the history: object 3, its rows R 0 .. R 3 are the cells 5 to 8 in some order -/
def RO (R : Nat → Nat) : Prop := (∀ j, j < 4 → 5 ≤ R j ∧ R j ≤ 8) ∧ ∀ i j, i < 4 → j < 4 → R i = R j → i = j
theorem KT_R {x : Nat} (h : 5 ≤ x ∧ x ≤ 8) : KT x = (0, 101) := by
  rcases (show x = 5 ∨ x = 6 ∨ x = 7 ∨ x = 8 by omega) with rfl | rfl | rfl | rfl <;> rfl
theorem blt_of {a b : Nat} (h : a < b) : Nat.blt a b = true := Nat.ble_eq_true_of_le h
section HAL
variable {L : Nat} {xs : Nat → Int32} {k n0 pc nx a b wp ix : Nat} {v : Int32} {ls : Lc} {st : List Value} {σE : St} {r : Option Value} {S : Nat → Nat → Int32} {P : Nat → Nat → Option Nat} {n : Nat}
theorem H_aald {i : Int32} {q j m y : Nat} (hc : ct k pc = (50, nx, a, b, wp, ix, v)) (e : i = nI j) (hK : KT q = (2, m)) (hj : j < m) (hq : Nat.blt q n = true) (hw : P q j = some y) (hy : Nat.blt y 1000 = true) (kk : G L xs k n0 nx ls (.ref y :: st) (S, P, n) r σE) : G L xs k n0 pc ls (.int i :: .ref q :: st) (S, P, n) r σE :=
  G_aaload (σ := (S, P, n)) (w := .ref y) hc e hK hj hq (by show rfv (P q j) = _; rw [hw]; rfl) hy kk
theorem H_aast {i : Int32} {q j m y n9 : Nat} (hc : ct k pc = (51, nx, a, b, wp, ix, v)) (e : i = nI j) (hK : KT q = (2, m)) (hj : j < m) (hq : Nat.blt q n = true) (hy : Nat.blt y n = true) (hKy : KT y = (0, n9)) (kk : G L xs k n0 nx ls st (S, u2 P q (va_up (P q) j (some y)), n) r σE) : G L xs k n0 pc ls (.ref y :: .int i :: .ref q :: st) (S, P, n) r σE :=
  G_aastore (σ := (S, P, n)) hc e hK hj hq hy hKy kk
end HAL
theorem PF_up {R : Nat → Nat} {j y : Nat} (hj : j < 4) : u2 (PF R) 4 (va_up (PF R 4) j (some y)) = PF (fun i => if i = j then y else R i) := by
  funext a i
  by_cases ha : a = 4
  · subst ha
    have h4 : Nat.beq 4 4 = true := rfl
    simp only [u2, if_true, va_up, PF, h4, cond_true]
    by_cases hi : i = j
    · subst hi
      simp [blt_of hj]
    · simp [hi]
  · have hb : Nat.beq a 4 = false := by
      cases e : Nat.beq a 4 with
      | false => rfl
      | true => exact absurd (Nat.eq_of_beq_eq_true e) ha
    simp [u2, ha, PF, hb]
def rot (R : Nat → Nat) : Nat → Nat := fun i => if i = 3 then R 0 else if i = 2 then R 3 else if i = 1 then R 2 else if i = 0 then R 1 else R i
theorem RO_rot {R : Nat → Nat} (h : RO R) : RO (rot R) := by
  have hc : ∀ j, j < 4 → ∃ i, i < 4 ∧ rot R j = R i ∧ i = (j + 1) % 4 := by
    intro j hj
    rcases (show j = 0 ∨ j = 1 ∨ j = 2 ∨ j = 3 by omega) with rfl | rfl | rfl | rfl
    · exact ⟨1, by decide, rfl, rfl⟩
    · exact ⟨2, by decide, rfl, rfl⟩
    · exact ⟨3, by decide, rfl, rfl⟩
    · exact ⟨0, by decide, rfl, rfl⟩
  refine ⟨fun j hj => ?_, fun i j hi hj e => ?_⟩
  · obtain ⟨i, hi, e, -⟩ := hc j hj
    rw [e]
    exact h.1 i hi
  · obtain ⟨a, ha, ea, ha2⟩ := hc i hi
    obtain ⟨b, hb, eb, hb2⟩ := hc j hj
    have := h.2 a b ha hb (by rw [← ea, ← eb]; exact e)
    omega
section HI
variable (S : Nat → Nat → Int32) (R : Nat → Nat)
set_option maxRecDepth 100000 in
theorem ev_hstates : EvM kHistory_states [.ref 3] (mk S R) (some (.int (S 3 1))) (mk S R) := by
  refine EvM_mk [some (.ref 3)] rfl rfl rfl rfl rfl (trivial) ?_
  refine G_aload_n rfl rfl ?_
  refine H_getI rfl rfl rfl rfl ?_
  exact H_ret rfl rfl (rfl) (rfl)
set_option maxRecDepth 100000 in
theorem ev_dropOldest (hR : RO R) : EvM kHistory_dropOldest [.ref 3] (mk S R) none (mk (u2 S 3 (upd (S 3) 1 (S 3 1 - 1))) (rot R)) := by
  have hb : ∀ j, j < 4 → Nat.blt (R j) 1000 = true := fun j hj => blt_of (by have := hR.1 j hj; omega)
  have hb2 : ∀ j, j < 4 → Nat.blt (R j) 24 = true := fun j hj => blt_of (by have := hR.1 j hj; omega)
  have hK : ∀ j, j < 4 → KT (R j) = (0, 101) := fun j hj => KT_R (hR.1 j hj)
  refine EvM_mk [some (.ref 3), none, none] rfl rfl rfl rfl rfl (trivial) ?_
  refine G_aload_n rfl rfl ?_
  refine H_getR rfl rfl rfl rfl rfl rfl ?_
  refine G_iconst rfl ?_
  refine H_aald rfl ((show (0 : Int32) = nI 0 from rfl)) rfl ((by decide)) rfl ((show PF R 4 0 = some (R 0) from rfl)) (hb 0 (by decide)) ?_
  refine H_ast_3_1 rfl rfl ?_
  refine G_iconst rfl ?_
  refine H_ist_3_2 rfl rfl ?_
  refine G_iload_n rfl rfl ?_
  refine G_iconst rfl ?_
  refine G_icmp_ge rfl (fun h => ?_) (fun h => ?_)
  · exact absurd h (by decide)
  refine G_aload_n rfl rfl ?_
  refine H_getR rfl rfl rfl rfl rfl rfl ?_
  refine G_iload_n rfl rfl ?_
  refine G_iconst rfl ?_
  refine G_isub rfl ?_
  refine G_aload_n rfl rfl ?_
  refine H_getR rfl rfl rfl rfl rfl rfl ?_
  refine G_iload_n rfl rfl ?_
  refine H_aald rfl ((show (1 : Int32) = nI 1 from rfl)) rfl ((by decide)) rfl ((show PF R 4 1 = some (R 1) from rfl)) (hb 1 (by decide)) ?_
  refine H_aast rfl ((show (1 : Int32) - 1 = nI 0 by decide)) rfl ((by decide)) rfl (hb2 1 (by decide)) (hK 1 (by decide)) ?_
  rw [PF_up (by decide)]
  refine H_inc_3_2 rfl rfl ?_
  refine G_goto rfl ?_
  refine G_iload_n rfl rfl ?_
  refine G_iconst rfl ?_
  refine G_icmp_ge rfl (fun h => ?_) (fun h => ?_)
  · exact absurd h (by decide)
  refine G_aload_n rfl rfl ?_
  refine H_getR rfl rfl rfl rfl rfl rfl ?_
  refine G_iload_n rfl rfl ?_
  refine G_iconst rfl ?_
  refine G_isub rfl ?_
  refine G_aload_n rfl rfl ?_
  refine H_getR rfl rfl rfl rfl rfl rfl ?_
  refine G_iload_n rfl rfl ?_
  refine H_aald rfl ((show (1 : Int32) + 1 = nI 2 by decide)) rfl ((by decide)) rfl ((show PF _ 4 2 = some (R 2) from rfl)) (hb 2 (by decide)) ?_
  refine H_aast rfl ((show (1 : Int32) + 1 - 1 = nI 1 by decide)) rfl ((by decide)) rfl (hb2 2 (by decide)) (hK 2 (by decide)) ?_
  rw [PF_up (by decide)]
  refine H_inc_3_2 rfl rfl ?_
  refine G_goto rfl ?_
  refine G_iload_n rfl rfl ?_
  refine G_iconst rfl ?_
  refine G_icmp_ge rfl (fun h => ?_) (fun h => ?_)
  · exact absurd h (by decide)
  refine G_aload_n rfl rfl ?_
  refine H_getR rfl rfl rfl rfl rfl rfl ?_
  refine G_iload_n rfl rfl ?_
  refine G_iconst rfl ?_
  refine G_isub rfl ?_
  refine G_aload_n rfl rfl ?_
  refine H_getR rfl rfl rfl rfl rfl rfl ?_
  refine G_iload_n rfl rfl ?_
  refine H_aald rfl ((show (1 : Int32) + 1 + 1 = nI 3 by decide)) rfl ((by decide)) rfl ((show PF _ 4 3 = some (R 3) from rfl)) (hb 3 (by decide)) ?_
  refine H_aast rfl ((show (1 : Int32) + 1 + 1 - 1 = nI 2 by decide)) rfl ((by decide)) rfl (hb2 3 (by decide)) (hK 3 (by decide)) ?_
  rw [PF_up (by decide)]
  refine H_inc_3_2 rfl rfl ?_
  refine G_goto rfl ?_
  refine G_iload_n rfl rfl ?_
  refine G_iconst rfl ?_
  refine G_icmp_ge rfl (fun h => ?_) (fun h => ?_)
  · skip
    refine G_aload_n rfl rfl ?_
    refine H_getR rfl rfl rfl rfl rfl rfl ?_
    refine G_iconst rfl ?_
    refine G_aload_n rfl rfl ?_
    refine H_aast rfl ((show (3 : Int32) = nI 3 from rfl)) rfl ((by decide)) rfl (hb2 0 (by decide)) (hK 0 (by decide)) ?_
    rw [PF_up (by decide)]
    refine G_aload_n rfl rfl ?_
    refine G_dup rfl rfl ?_
    refine H_getI rfl rfl rfl rfl ?_
    refine G_iconst rfl ?_
    refine G_isub rfl ?_
    refine H_putI rfl rfl rfl rfl ?_
    refine G_ret rfl rfl rfl ?_
    refine congrArg (fun R => ((u2 S 3 (upd (S 3) 1 (S 3 1 - 1)), PF R, 24) : St)) (funext fun i => ?_)
    simp only [rot]
  · exact absurd (by decide) h
/-- the order of the rows and the count of states, when a state is recorded -/
def recR (R : Nat → Nat) (n : Nat) : Nat → Nat := if n < 4 then R else rot R
def recN (n : Nat) : Nat := if n < 4 then n else 3
def recS (S : Nat → Nat → Int32) (R : Nat → Nat) (n : Nat) : Nat → Nat → Int32 := u2 (u2 S (recR R n (recN n)) (cpy (S 2) (S (recR R n (recN n))) 101)) 3 (upd (S 3) 1 (nI (recN n + 1)))
set_option maxRecDepth 100000 in
theorem ev_record (hR : RO R) {n : Nat} (hn : S 3 1 = nI n) (hn4 : n ≤ 4) : EvM kHistory_record [.ref 3, .ref 1] (mk S R) none (mk (recS S R n) (recR R n)) := by
  have hq : TQ 1 2 := Or.inl ⟨rfl, rfl⟩
  refine EvM_mk [some (.ref 3), some (.ref 1)] rfl rfl rfl rfl rfl (trivial) ?_
  have tail : ∀ (S : Nat → Nat → Int32) (R : Nat → Nat) (n : Nat), RO R → S 3 1 = nI n → n < 4 → Gm kHistory_record 12 [some (.ref 3), some (.ref 1)] [] (S, PF R, 24) none (u2 (u2 S (R n) (cpy (S 2) (S (R n)) 101)) 3 (upd (S 3) 1 (nI (n + 1))), PF R, 24) := fun S R n hR hn hn4 => by
    have h5 := hR.1 n hn4
    refine G_aload_n rfl rfl ?_
    refine H_getI rfl rfl rfl rfl ?_
    refine G_if_lt rfl (fun h => ?_) (fun h => ?_)
    · exact absurd (by rw [hn] at h; exact h) (nI_pos (by omega))
    refine G_aload_n rfl rfl ?_
    refine H_getI rfl rfl rfl rfl ?_
    refine G_iconst rfl ?_
    refine G_icmp_ge rfl (fun h => ?_) (fun h => ?_)
    · exact absurd (by rw [hn] at h; exact h) (ge_no (n := 4) hn4 (by decide))
    refine G_aload_n rfl rfl ?_
    refine G_aload_n rfl rfl ?_
    refine H_getR rfl rfl rfl rfl rfl rfl ?_
    refine G_aload_n rfl rfl ?_
    refine H_getI rfl rfl rfl rfl ?_
    refine H_aald rfl (hn) rfl (hn4) rfl ((show PF R 4 n = some (R n) by simp [PF, blt_of hn4])) ((blt_of (by omega))) ?_
    refine H_callU (ev_copyTo hq S R (o := R n) (by omega) (KT_R h5) (blt_of (by omega))) rfl rfl rfl rfl rfl rfl rfl rfl ?_
    refine G_aload_n rfl rfl ?_
    refine G_dup rfl rfl ?_
    refine H_getI rfl rfl rfl rfl ?_
    refine G_iconst rfl ?_
    refine G_iadd rfl ?_
    refine H_putI rfl rfl rfl rfl ?_
    exact H_retv rfl rfl ((by rw [u2_ne (show 3 ≠ R n by omega), hn, nI_succ]))
  refine G_aload_n rfl rfl ?_
  refine H_getI rfl rfl rfl rfl ?_
  refine G_iconst rfl ?_
  refine G_icmp_lt rfl (fun h => ?_) (fun h => ?_)
  · have hlt : n < 4 := by
      rw [hn] at h
      exact Decidable.byContradiction fun q => absurd h (nI_nlt (b := 4) (by omega) (by omega))
    have := tail S R n hR hn hlt
    unfold recS recR recN
    rw [if_pos hlt, if_pos hlt]
    exact this
  · have hge : n = 4 := by
      rw [hn] at h
      have : ¬ n < 4 := fun q => h (nI_lt (b := 4) q (by decide))
      omega
    subst hge
    refine G_aload_n rfl rfl ?_
    refine H_callU (ev_dropOldest S R hR) rfl rfl rfl rfl rfl rfl rfl rfl ?_
    have e3 : S 3 1 - 1 = nI 3 := by rw [hn]; decide
    have := tail (u2 S 3 (upd (S 3) 1 (S 3 1 - 1))) (rot R) 3 (RO_rot hR) (by rw [u2_same, upd_same, e3]) (by decide)
    have h5 := (RO_rot hR).1 3 (by decide)
    unfold recS recR recN
    rw [if_neg (by decide), if_neg (by decide)]
    rw [u2_ne (show 2 ≠ 3 by decide), u2_ne (show rot R 3 ≠ 3 by omega), u2_same, upd_upd, u2_comm (show (3 : Nat) ≠ rot R 3 by omega), u2_u2] at this
    exact this
theorem RO_rec {R : Nat → Nat} (h : RO R) (n : Nat) : RO (recR R n) := by
  unfold recR
  split
  · exact h
  · exact RO_rot h
set_option maxRecDepth 100000 in
theorem ev_bringBack (hR : RO R) {n : Nat} (hn : S 3 1 = nI (n + 1)) (hn4 : n < 4) : EvM kHistory_bringBack [.ref 3, .ref 1] (mk S R) none (mk (u2 (u2 S 3 (upd (S 3) 1 (nI n))) 2 (cpy (S (R n)) (S 2) 101)) R) := by
  have hq : TQ 1 2 := Or.inl ⟨rfl, rfl⟩
  have h5 := hR.1 n hn4
  refine EvM_mk [some (.ref 3), some (.ref 1)] rfl rfl rfl rfl rfl (trivial) ?_
  refine G_aload_n rfl rfl ?_
  refine H_getI rfl rfl rfl rfl ?_
  refine G_if_le rfl (fun h => ?_) (fun h => ?_)
  · exact absurd (by rw [hn] at h; exact h) (nI_nle (by omega) (by omega))
  refine G_aload_n rfl rfl ?_
  refine H_getI rfl rfl rfl rfl ?_
  refine G_iconst rfl ?_
  refine G_icmp_gt rfl (fun h => ?_) (fun h => ?_)
  · exact absurd (by rw [hn] at h; exact h) (nI_nlt (a := 4) (by omega) (by decide))
  refine G_aload_n rfl rfl ?_
  refine G_dup rfl rfl ?_
  refine H_getI rfl rfl rfl rfl ?_
  refine G_iconst rfl ?_
  refine G_isub rfl ?_
  refine H_putI rfl rfl rfl rfl ?_
  refine G_aload_n rfl rfl ?_
  refine G_aload_n rfl rfl ?_
  refine H_getR rfl rfl rfl rfl rfl rfl ?_
  refine G_aload_n rfl rfl ?_
  refine H_getI rfl rfl rfl rfl ?_
  refine H_aald rfl ((by rw [u2_same, upd_same, hn]; exact nI_pred n)) rfl (hn4) rfl ((show PF R 4 n = some (R n) by simp [PF, blt_of hn4])) ((blt_of (by omega))) ?_
  refine H_callU (ev_copyFrom hq (u2 S 3 (upd (S 3) 1 (S 3 1 - 1))) R (o := R n) (by omega) (KT_R h5) (blt_of (by omega))) rfl rfl rfl rfl rfl rfl rfl rfl ?_
  exact H_retv rfl rfl ((by rw [u2_ne (show R n ≠ 3 by omega), u2_ne (show 2 ≠ 3 by decide), hn, nI_pred]))
end HI
