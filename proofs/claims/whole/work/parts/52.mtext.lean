/-! the document's own reckoning: texts; the spot and whether all is well so far -/
def TS (S : Nat → Nat → Int32) (p : Nat) (ok : Bool) : Nat → Nat → Int32 := u2 S 24 (upd (upd (S 24) 9 (nI p)) 10 (b2i ok))
section MT
variable (S : Nat → Nat → Int32) (R : Nat → Nat)
theorem TS_9 {p : Nat} {ok : Bool} : TS S p ok 24 9 = nI p := by unfold TS; rw [u2_same, upd_ne (by decide), upd_same]
theorem TS_10 {p : Nat} {ok : Bool} : TS S p ok 24 10 = b2i ok := by unfold TS; rw [u2_same, upd_same]
theorem TS_o {p : Nat} {ok : Bool} {j : Nat} (h1 : j ≠ 9) (h2 : j ≠ 10) : TS S p ok 24 j = S 24 j := by unfold TS; rw [u2_same, upd_ne h2, upd_ne h1]
theorem TS_n {p : Nat} {ok : Bool} {i : Nat} (h : i ≠ 24) : TS S p ok i = S i := u2_ne h
theorem TS_set {p p' : Nat} {ok ok' : Bool} : u2 (TS S p ok) 24 (upd (upd (TS S p ok 24) 10 (b2i ok')) 9 (nI p')) = TS S p' ok' := by
  unfold TS
  rw [u2_u2, u2_same]
  congr 1
  funext z
  by_cases h9 : z = 9
  · subst h9; rw [upd_same, upd_ne (by decide), upd_same]
  · rw [upd_ne h9]
    by_cases h10 : z = 10
    · subst h10; rw [upd_same, upd_same]
    · rw [upd_ne h10, upd_ne h10, upd_ne h9, upd_ne h10, upd_ne h9]
/-- the sign at a place, 0 behind the end -/
def mhe (f : Nat → Int32) (n p : Nat) : Int32 := if p < n then f p else 0
set_option maxRecDepth 100000 in
theorem ev_mhere {n p : Nat} {ok : Bool} (hn : S 24 6 = nI n) (hc : n ≤ 60) (hp : p < 1000) : EvM kM_here [.ref 24] (mk (TS S p ok) R) (some (.int (mhe (S 28) n p))) (mk (TS S p ok) R) := by
  have e9 := TS_9 S (p := p) (ok := ok)
  have e6 : TS S p ok 24 6 = nI n := (TS_o S (by decide) (by decide)).trans hn
  have e28 : TS S p ok 28 = S 28 := TS_n S (by decide)
  unfold mhe
  rw [← e28]
  generalize TS S p ok = Z at *
  by_cases h : p < n
  · rw [if_pos h]
    refine EvM_mk [some (.ref 24)] rfl rfl rfl rfl rfl (trivial) ?_
    refine G_aload_n rfl rfl ?_
    refine H_getI rfl rfl rfl rfl ?_
    refine G_aload_n rfl rfl ?_
    refine H_getI rfl rfl rfl rfl ?_
    refine G_icmp_ge rfl (fun q => ?_) (fun q => ?_)
    · rw [e9, e6] at q; exact absurd q (ge_no h (by omega))
    refine G_aload_n rfl rfl ?_
    refine H_getR rfl rfl rfl rfl rfl rfl ?_
    refine G_aload_n rfl rfl ?_
    refine H_getI rfl rfl rfl rfl ?_
    refine H_iald rfl (e9) (rfl) ((by omega)) (rfl) ?_
    refine G_goto rfl ?_
    exact H_ret rfl rfl (rfl) (rfl)
  · rw [if_neg h]
    refine EvM_mk [some (.ref 24)] rfl rfl rfl rfl rfl (trivial) ?_
    refine G_aload_n rfl rfl ?_
    refine H_getI rfl rfl rfl rfl ?_
    refine G_aload_n rfl rfl ?_
    refine H_getI rfl rfl rfl rfl ?_
    refine G_icmp_ge rfl (fun q => ?_) (fun q => ?_)
    · skip
      refine G_iconst rfl ?_
      exact H_ret rfl rfl (rfl) (rfl)
    · exact absurd (by rw [e9, e6]; exact nI_le (by omega) (by omega)) q
set_option maxRecDepth 100000 in
theorem ev_mtakes {p : Nat} {ok : Bool} (may : Bool) : EvM kM_takes [.ref 24, .int (b2i may)] (mk (TS S p ok) R) none (mk (TS S (p + (bif ok && may then 1 else 0)) (ok && may)) R) := by
  have e9 := TS_9 S (p := p) (ok := ok)
  have e10 := TS_10 S (p := p) (ok := ok)
  have st := TS_set S (p := p) (p' := p + (bif ok && may then 1 else 0)) (ok := ok) (ok' := ok && may)
  generalize TS S p ok = Z at *
  rw [← st]
  cases h : ok && may with
  | true =>
    rw [cond_true, nI_succ]
    rw [Bool.and_eq_true] at h
    refine EvM_mk [some (.ref 24), some (.int (b2i may))] rfl rfl rfl rfl rfl (trivial) ?_
    refine G_aload_n rfl rfl ?_
    refine G_aload_n rfl rfl ?_
    refine H_getI rfl rfl rfl rfl ?_
    refine G_if_eq rfl (fun q => ?_) (fun q => ?_)
    · exact absurd q (by rw [e10, h.1]; decide)
    refine G_iload_n rfl rfl ?_
    refine G_if_eq rfl (fun q2 => ?_) (fun q2 => ?_)
    · exact absurd q2 (by rw [h.2]; decide)
    refine G_iconst rfl ?_
    refine G_goto rfl ?_
    refine H_putI rfl rfl rfl rfl ?_
    refine G_aload_n rfl rfl ?_
    refine G_dup rfl rfl ?_
    refine H_getI rfl rfl rfl rfl ?_
    refine G_aload_n rfl rfl ?_
    refine H_getI rfl rfl rfl rfl ?_
    refine G_if_eq rfl (fun q3 => ?_) (fun q3 => ?_)
    · exact absurd q3 (by rw [u2_same, upd_same]; decide)
    refine G_iconst rfl ?_
    refine G_goto rfl ?_
    refine G_iadd rfl ?_
    refine H_putI rfl rfl rfl rfl ?_
    exact H_retv rfl rfl ((by rw [u2_same, u2_u2, upd_ne (show 9 ≠ 10 by decide), e9]; rfl))
  | false =>
    rw [cond_false, Nat.add_zero]
    have no : ∀ l1, Gm kM_takes 16 [some (.ref 24), l1] [.ref 24] (Z, PF R, 32) none (u2 Z 24 (upd (upd (Z 24) 10 (b2i false)) 9 (nI p)), PF R, 32) := fun l1 => by
      refine G_iconst rfl ?_
      refine H_putI rfl rfl rfl rfl ?_
      refine G_aload_n rfl rfl ?_
      refine G_dup rfl rfl ?_
      refine H_getI rfl rfl rfl rfl ?_
      refine G_aload_n rfl rfl ?_
      refine H_getI rfl rfl rfl rfl ?_
      refine G_if_eq rfl (fun q3 => ?_) (fun q3 => ?_)
      · skip
        refine G_iconst rfl ?_
        refine G_iadd rfl ?_
        refine H_putI rfl rfl rfl rfl ?_
        exact H_retv rfl rfl ((by rw [u2_same, u2_u2, upd_ne (show 9 ≠ 10 by decide), e9, Int32.add_zero]; rfl))
      · exact absurd (by rw [u2_same, upd_same]) q3
    refine EvM_mk [some (.ref 24), some (.int (b2i may))] rfl rfl rfl rfl rfl (trivial) ?_
    refine G_aload_n rfl rfl ?_
    refine G_aload_n rfl rfl ?_
    refine H_getI rfl rfl rfl rfl ?_
    refine G_if_eq rfl (fun q => ?_) (fun q => ?_)
    · exact no _
    refine G_iload_n rfl rfl ?_
    refine G_if_eq rfl (fun q2 => ?_) (fun q2 => ?_)
    · exact no _
    · rw [e10] at q; rw [b2i_n0.mp q, b2i_n0.mp q2] at h; cases h
end MT
