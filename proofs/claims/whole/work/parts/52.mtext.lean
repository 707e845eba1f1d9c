/-! the document's own reckoning: texts; the spot and whether all is well so far -/
def TS (S : Nat → Nat → Int32) (p : Nat) (ok : Bool) : Nat → Nat → Int32 := u2 S 24 (upd (upd (S 24) 9 (nI p)) 10 (b2i ok))
section MT
variable (S : Nat → Nat → Int32) (R : Nat → Nat)
theorem TS_9 {p : Nat} {ok : Bool} : TS S p ok 24 9 = nI p := by unfold TS; rw [u2_same, upd_ne (by decide), upd_same]
theorem TS_10 {p : Nat} {ok : Bool} : TS S p ok 24 10 = b2i ok := by unfold TS; rw [u2_same, upd_same]
theorem TS_o {p : Nat} {ok : Bool} {j : Nat} (h1 : j ≠ 9) (h2 : j ≠ 10) : TS S p ok 24 j = S 24 j := by unfold TS; rw [u2_same, upd_ne h2, upd_ne h1]
theorem TS_n {p : Nat} {ok : Bool} {i : Nat} (h : i ≠ 24) : TS S p ok i = S i := u2_ne h
theorem TS_set {p p' : Nat} {ok ok' : Bool} : u2 (TS S p ok) 24 (upd (upd (TS S p ok 24) 10 (b2i ok')) 9 (nI p')) = TS S p' ok' := by
  unfold TS
  rw [u2_u2, u2_same]
  congr 1
  funext z
  by_cases h9 : z = 9
  · subst h9; rw [upd_same, upd_ne (by decide), upd_same]
  · rw [upd_ne h9]
    by_cases h10 : z = 10
    · subst h10; rw [upd_same, upd_same]
    · rw [upd_ne h10, upd_ne h10, upd_ne h9, upd_ne h10, upd_ne h9]
/-- the sign at a place, 0 behind the end -/
def mhe (f : Nat → Int32) (n p : Nat) : Int32 := if p < n then f p else 0
set_option maxRecDepth 100000 in
theorem ev_mhere {n p : Nat} {ok : Bool} (hn : S 24 6 = nI n) (hc : n ≤ 60) (hp : p < 1000) : EvM kM_here [.ref 24] (mk (TS S p ok) R) (some (.int (mhe (S 28) n p))) (mk (TS S p ok) R) := by
  have e9 := TS_9 S (p := p) (ok := ok)
  have e6 : TS S p ok 24 6 = nI n := (TS_o S (by decide) (by decide)).trans hn
  have e28 : TS S p ok 28 = S 28 := TS_n S (by decide)
  unfold mhe
  rw [← e28]
  generalize TS S p ok = Z at *
  by_cases h : p < n
  · rw [if_pos h]
    refine EvM_mk [some (.ref 24)] rfl rfl rfl rfl rfl (trivial) ?_
    refine G_aload_n rfl rfl ?_
    refine H_getI rfl rfl rfl rfl ?_
    refine G_aload_n rfl rfl ?_
    refine H_getI rfl rfl rfl rfl ?_
    refine G_icmp_ge rfl (fun q => ?_) (fun q => ?_)
    · rw [e9, e6] at q; exact absurd q (ge_no h (by omega))
    refine G_aload_n rfl rfl ?_
    refine H_getR rfl rfl rfl rfl rfl rfl ?_
    refine G_aload_n rfl rfl ?_
    refine H_getI rfl rfl rfl rfl ?_
    refine H_iald rfl (e9) (rfl) ((by omega)) (rfl) ?_
    refine G_goto rfl ?_
    exact H_ret rfl rfl (rfl) (rfl)
  · rw [if_neg h]
    refine EvM_mk [some (.ref 24)] rfl rfl rfl rfl rfl (trivial) ?_
    refine G_aload_n rfl rfl ?_
    refine H_getI rfl rfl rfl rfl ?_
    refine G_aload_n rfl rfl ?_
    refine H_getI rfl rfl rfl rfl ?_
    refine G_icmp_ge rfl (fun q => ?_) (fun q => ?_)
    · skip
      refine G_iconst rfl ?_
      exact H_ret rfl rfl (rfl) (rfl)
    · exact absurd (by rw [e9, e6]; exact nI_le (by omega) (by omega)) q
end MT
