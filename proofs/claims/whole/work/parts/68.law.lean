/-! the law: each of its calls, its loop, its walk from the entry -/
theorem swG_all {P : Nat → Prop} {x : Int32} : ∀ (ts : List Nat) (i : Nat), (∀ j t, ts[j]? = some t → x = nI (i + j) → P t) → swG P x i ts
  | [], _, _ => trivial
  | t :: ts, i, h => ⟨fun e => h 0 t rfl e, swG_all ts (i + 1) (fun j t' hj e => h (j + 1) t' (by rw [List.getElem?_cons_succ]; exact hj) (by rw [e]; congr 1; omega))⟩
section LAW
variable {L : Nat} {xs : Nat → Int32}
theorem G_sw1 {k n0 pc nx a b wp ix : Nat} {v : Int32} {ls : Lc} {st : List Value} {σ σE : St} {r : Option Value} {x : Int32} {hi : Int} {ts : List Nat} {d : Nat} (hc : ct k pc = (42, nx, a, b, wp, ix, v)) (hsw : swt a = (((0 : Nat) : Int), hi, ts, d)) (hlen : hi = ((0 : Nat) : Int) + (ts.length : Int) - 1) (hb : ts.length < 1000) {j t : Nat} (hx : x = nI j) (ht : ts[j]? = some t) (kk : G L xs k n0 t ls st σ r σE) : G L xs k n0 pc ls (.int x :: st) σ r σE := by
  have hj : j < ts.length := (List.getElem?_eq_some_iff.mp ht).1
  refine G_switch hc hsw hlen (swG_all ts 0 (fun j' t' h1 h2 => ?_)) (fun h => ?_)
  · have hj' : j' < ts.length := (List.getElem?_eq_some_iff.mp h1).1
    have e : j = 0 + j' := (nI_eq (show j < 2 ^ 31 by omega) (show 0 + j' < 2 ^ 31 by omega)).mp (hx.symm.trans h2)
    have e : j' = j := by omega
    subst e
    rw [ht] at h1
    cases h1
    exact kk
  · have := nI_toInt (show j < 2 ^ 31 by omega)
    rw [hx] at h
    omega
theorem G_sw0 {k n0 pc nx a b wp ix : Nat} {v : Int32} {ls : Lc} {st : List Value} {σ σE : St} {r : Option Value} {x : Int32} {hi : Int} {ts : List Nat} {d : Nat} (hc : ct k pc = (42, nx, a, b, wp, ix, v)) (hsw : swt a = (((0 : Nat) : Int), hi, ts, d)) (hlen : hi = ((0 : Nat) : Int) + (ts.length : Int) - 1) (hb : ts.length < 1000) (hx : x < 0 ∨ nI ts.length ≤ x) (kk : G L xs k n0 d ls st σ r σE) : G L xs k n0 pc ls (.int x :: st) σ r σE := by
  refine G_switch hc hsw hlen (swG_all ts 0 (fun j' t' h1 h2 => ?_)) (fun h => kk)
  have hj' : j' < ts.length := (List.getElem?_eq_some_iff.mp h1).1
  rw [Nat.zero_add] at h2
  rcases hx with q | q
  · rw [h2] at q; exact absurd q (nI_pos (by omega))
  · rw [h2] at q; exact absurd q (nI_ge hj' (by omega))
abbrev ll (i : Nat) (l4 l5 l6 l7 : Option Value) : Lc := [some (.ref 1000), some (.ref 0), some (.ref 24), some (.int (nI i)), l4, l5, l6, l7]
/-- from pc on the law comes to its end and answers 1 -/
def LE (L : Nat) (xs : Nat → Int32) (pc i : Nat) (l4 l5 l6 l7 : Option Value) (S : Nat → Nat → Int32) (R : Nat → Nat) : Prop := ∃ S' R', G L xs 0 0 pc (ll i l4 l5 l6 l7) [] (S, PF R, 32) (some (.int 1)) (S', PF R', 32)
def LN (L : Nat) (xs : Nat → Int32) (i : Nat) : Prop := ∀ S R, CP S R → ∀ l4 l5 l6 l7, LE L xs 912 i l4 l5 l6 l7 S R
set_option maxRecDepth 100000 in
theorem lc_tape {i : Nat} (hi : i + 3 < L) (hL : L < 2 ^ 31) (l4 l5 l6 l7 : Option Value) {S : Nat → Nat → Int32} {R : Nat → Nat} (h : CP S R) (nx : LN L xs i) : LE L xs 160 i l4 l5 l6 l7 S R := by
  obtain ⟨r, S1, R1, S2, c1, c2, hc⟩ := cs_tape S R h
  obtain ⟨S', R', g⟩ := nx S2 R1 hc l4 l5 l6 l7
  refine ⟨S', R', ?_⟩
  refine G_aload_n rfl rfl ?_
  refine H_callV c1 rfl rfl rfl rfl rfl rfl rfl rfl ?_
  refine G_aload_n rfl rfl ?_
  refine H_callV c2 rfl rfl rfl rfl rfl rfl rfl rfl ?_
  exact G_icmp_eq rfl (fun _ => g) (fun q => absurd rfl q)
set_option maxRecDepth 100000 in
theorem lc_drop {i : Nat} (hi : i + 3 < L) (hL : L < 2 ^ 31) (l4 l5 l6 l7 : Option Value) {S : Nat → Nat → Int32} {R : Nat → Nat} (h : CP S R) (nx : LN L xs i) : LE L xs 173 i l4 l5 l6 l7 S R := by
  obtain ⟨r, S1, R1, S2, c1, c2, hc⟩ := cs_drop S R h (xs (i + 1))
  obtain ⟨S', R', g⟩ := nx S2 R1 hc l4 l5 l6 l7
  refine ⟨S', R', ?_⟩
  refine G_aload_n rfl rfl ?_
  refine G_aload_n rfl rfl ?_
  refine G_iload_n rfl rfl ?_
  refine G_iconst rfl ?_
  refine G_iadd rfl ?_
  refine G_saload (q := 0) (n := 0) (j := i + 1) rfl (nI_add i 1) rfl (by omega) hL ?_
  refine H_callV c1 rfl rfl rfl rfl rfl rfl rfl rfl ?_
  refine G_aload_n rfl rfl ?_
  refine G_aload_n rfl rfl ?_
  refine G_iload_n rfl rfl ?_
  refine G_iconst rfl ?_
  refine G_iadd rfl ?_
  refine G_saload (q := 0) (n := 0) (j := i + 1) rfl (nI_add i 1) rfl (by omega) hL ?_
  refine H_callV c2 rfl rfl rfl rfl rfl rfl rfl rfl ?_
  exact G_icmp_eq rfl (fun _ => g) (fun q => absurd rfl q)
set_option maxRecDepth 100000 in
theorem lc_shift {i : Nat} (hi : i + 3 < L) (hL : L < 2 ^ 31) (l4 l5 l6 l7 : Option Value) {S : Nat → Nat → Int32} {R : Nat → Nat} (h : CP S R) (nx : LN L xs i) : LE L xs 196 i l4 l5 l6 l7 S R := by
  obtain ⟨r, S1, R1, S2, c1, c2, hc⟩ := cs_shift S R h (xs (i + 1)) (xs (i + 2))
  obtain ⟨S', R', g⟩ := nx S2 R1 hc l4 l5 l6 l7
  refine ⟨S', R', ?_⟩
  refine G_aload_n rfl rfl ?_
  refine G_aload_n rfl rfl ?_
  refine G_iload_n rfl rfl ?_
  refine G_iconst rfl ?_
  refine G_iadd rfl ?_
  refine G_saload (q := 0) (n := 0) (j := i + 1) rfl (nI_add i 1) rfl (by omega) hL ?_
  refine G_aload_n rfl rfl ?_
  refine G_iload_n rfl rfl ?_
  refine G_iconst rfl ?_
  refine G_iadd rfl ?_
  refine G_saload (q := 0) (n := 0) (j := i + 2) rfl (nI_add i 2) rfl (by omega) hL ?_
  refine H_callV c1 rfl rfl rfl rfl rfl rfl rfl rfl ?_
  refine G_aload_n rfl rfl ?_
  refine G_aload_n rfl rfl ?_
  refine G_iload_n rfl rfl ?_
  refine G_iconst rfl ?_
  refine G_iadd rfl ?_
  refine G_saload (q := 0) (n := 0) (j := i + 1) rfl (nI_add i 1) rfl (by omega) hL ?_
  refine G_aload_n rfl rfl ?_
  refine G_iload_n rfl rfl ?_
  refine G_iconst rfl ?_
  refine G_iadd rfl ?_
  refine G_saload (q := 0) (n := 0) (j := i + 2) rfl (nI_add i 2) rfl (by omega) hL ?_
  refine H_callV c2 rfl rfl rfl rfl rfl rfl rfl rfl ?_
  exact G_icmp_eq rfl (fun _ => g) (fun q => absurd rfl q)
set_option maxRecDepth 100000 in
theorem lc_cut {i : Nat} (hi : i + 3 < L) (hL : L < 2 ^ 31) (l4 l5 l6 l7 : Option Value) {S : Nat → Nat → Int32} {R : Nat → Nat} (h : CP S R) (nx : LN L xs i) : LE L xs 229 i l4 l5 l6 l7 S R := by
  obtain ⟨r, S1, R1, S2, c1, c2, hc⟩ := cs_cut S R h (xs (i + 1)) (xs (i + 2))
  obtain ⟨S', R', g⟩ := nx S2 R1 hc l4 l5 l6 l7
  refine ⟨S', R', ?_⟩
  refine G_aload_n rfl rfl ?_
  refine G_aload_n rfl rfl ?_
  refine G_iload_n rfl rfl ?_
  refine G_iconst rfl ?_
  refine G_iadd rfl ?_
  refine G_saload (q := 0) (n := 0) (j := i + 1) rfl (nI_add i 1) rfl (by omega) hL ?_
  refine G_aload_n rfl rfl ?_
  refine G_iload_n rfl rfl ?_
  refine G_iconst rfl ?_
  refine G_iadd rfl ?_
  refine G_saload (q := 0) (n := 0) (j := i + 2) rfl (nI_add i 2) rfl (by omega) hL ?_
  refine H_callV c1 rfl rfl rfl rfl rfl rfl rfl rfl ?_
  refine G_aload_n rfl rfl ?_
  refine G_aload_n rfl rfl ?_
  refine G_iload_n rfl rfl ?_
  refine G_iconst rfl ?_
  refine G_iadd rfl ?_
  refine G_saload (q := 0) (n := 0) (j := i + 1) rfl (nI_add i 1) rfl (by omega) hL ?_
  refine G_aload_n rfl rfl ?_
  refine G_iload_n rfl rfl ?_
  refine G_iconst rfl ?_
  refine G_iadd rfl ?_
  refine G_saload (q := 0) (n := 0) (j := i + 2) rfl (nI_add i 2) rfl (by omega) hL ?_
  refine H_callV c2 rfl rfl rfl rfl rfl rfl rfl rfl ?_
  exact G_icmp_eq rfl (fun _ => g) (fun q => absurd rfl q)
set_option maxRecDepth 100000 in
theorem lc_glue {i : Nat} (hi : i + 3 < L) (hL : L < 2 ^ 31) (l4 l5 l6 l7 : Option Value) {S : Nat → Nat → Int32} {R : Nat → Nat} (h : CP S R) (nx : LN L xs i) : LE L xs 262 i l4 l5 l6 l7 S R := by
  obtain ⟨r, S1, R1, S2, c1, c2, hc⟩ := cs_glue S R h (xs (i + 1)) (xs (i + 2))
  obtain ⟨S', R', g⟩ := nx S2 R1 hc l4 l5 l6 l7
  refine ⟨S', R', ?_⟩
  refine G_aload_n rfl rfl ?_
  refine G_aload_n rfl rfl ?_
  refine G_iload_n rfl rfl ?_
  refine G_iconst rfl ?_
  refine G_iadd rfl ?_
  refine G_saload (q := 0) (n := 0) (j := i + 1) rfl (nI_add i 1) rfl (by omega) hL ?_
  refine G_aload_n rfl rfl ?_
  refine G_iload_n rfl rfl ?_
  refine G_iconst rfl ?_
  refine G_iadd rfl ?_
  refine G_saload (q := 0) (n := 0) (j := i + 2) rfl (nI_add i 2) rfl (by omega) hL ?_
  refine H_callV c1 rfl rfl rfl rfl rfl rfl rfl rfl ?_
  refine G_aload_n rfl rfl ?_
  refine G_aload_n rfl rfl ?_
  refine G_iload_n rfl rfl ?_
  refine G_iconst rfl ?_
  refine G_iadd rfl ?_
  refine G_saload (q := 0) (n := 0) (j := i + 1) rfl (nI_add i 1) rfl (by omega) hL ?_
  refine G_aload_n rfl rfl ?_
  refine G_iload_n rfl rfl ?_
  refine G_iconst rfl ?_
  refine G_iadd rfl ?_
  refine G_saload (q := 0) (n := 0) (j := i + 2) rfl (nI_add i 2) rfl (by omega) hL ?_
  refine H_callV c2 rfl rfl rfl rfl rfl rfl rfl rfl ?_
  exact G_icmp_eq rfl (fun _ => g) (fun q => absurd rfl q)
set_option maxRecDepth 100000 in
theorem lc_read {i : Nat} (hi : i + 3 < L) (hL : L < 2 ^ 31) (l4 l5 l6 l7 : Option Value) {S : Nat → Nat → Int32} {R : Nat → Nat} (h : CP S R) (nx : LN L xs i) : LE L xs 295 i l4 l5 l6 l7 S R := by
  obtain ⟨r, S1, R1, S2, c1, c2, hc⟩ := cs_read S R h (xs (i + 1)) (xs (i + 2)) (xs (i + 3))
  obtain ⟨S', R', g⟩ := nx S2 R1 hc l4 l5 l6 l7
  refine ⟨S', R', ?_⟩
  refine G_aload_n rfl rfl ?_
  refine G_aload_n rfl rfl ?_
  refine G_iload_n rfl rfl ?_
  refine G_iconst rfl ?_
  refine G_iadd rfl ?_
  refine G_saload (q := 0) (n := 0) (j := i + 1) rfl (nI_add i 1) rfl (by omega) hL ?_
  refine G_aload_n rfl rfl ?_
  refine G_iload_n rfl rfl ?_
  refine G_iconst rfl ?_
  refine G_iadd rfl ?_
  refine G_saload (q := 0) (n := 0) (j := i + 2) rfl (nI_add i 2) rfl (by omega) hL ?_
  refine G_aload_n rfl rfl ?_
  refine G_iload_n rfl rfl ?_
  refine G_iconst rfl ?_
  refine G_iadd rfl ?_
  refine G_saload (q := 0) (n := 0) (j := i + 3) rfl (nI_add i 3) rfl (by omega) hL ?_
  refine H_callV c1 rfl rfl rfl rfl rfl rfl rfl rfl ?_
  refine G_aload_n rfl rfl ?_
  refine G_aload_n rfl rfl ?_
  refine G_iload_n rfl rfl ?_
  refine G_iconst rfl ?_
  refine G_iadd rfl ?_
  refine G_saload (q := 0) (n := 0) (j := i + 1) rfl (nI_add i 1) rfl (by omega) hL ?_
  refine G_aload_n rfl rfl ?_
  refine G_iload_n rfl rfl ?_
  refine G_iconst rfl ?_
  refine G_iadd rfl ?_
  refine G_saload (q := 0) (n := 0) (j := i + 2) rfl (nI_add i 2) rfl (by omega) hL ?_
  refine G_aload_n rfl rfl ?_
  refine G_iload_n rfl rfl ?_
  refine G_iconst rfl ?_
  refine G_iadd rfl ?_
  refine G_saload (q := 0) (n := 0) (j := i + 3) rfl (nI_add i 3) rfl (by omega) hL ?_
  refine H_callV c2 rfl rfl rfl rfl rfl rfl rfl rfl ?_
  exact G_icmp_eq rfl (fun _ => g) (fun q => absurd rfl q)
set_option maxRecDepth 100000 in
theorem lc_lose {i : Nat} (hi : i + 3 < L) (hL : L < 2 ^ 31) (l4 l5 l6 l7 : Option Value) {S : Nat → Nat → Int32} {R : Nat → Nat} (h : CP S R) (nx : LN L xs i) : LE L xs 338 i l4 l5 l6 l7 S R := by
  obtain ⟨r, S1, R1, S2, c1, c2, hc⟩ := cs_lose S R h (xs (i + 1)) (xs (i + 2))
  obtain ⟨S', R', g⟩ := nx S2 R1 hc l4 l5 l6 l7
  refine ⟨S', R', ?_⟩
  refine G_aload_n rfl rfl ?_
  refine G_aload_n rfl rfl ?_
  refine G_iload_n rfl rfl ?_
  refine G_iconst rfl ?_
  refine G_iadd rfl ?_
  refine G_saload (q := 0) (n := 0) (j := i + 1) rfl (nI_add i 1) rfl (by omega) hL ?_
  refine G_aload_n rfl rfl ?_
  refine G_iload_n rfl rfl ?_
  refine G_iconst rfl ?_
  refine G_iadd rfl ?_
  refine G_saload (q := 0) (n := 0) (j := i + 2) rfl (nI_add i 2) rfl (by omega) hL ?_
  refine H_callV c1 rfl rfl rfl rfl rfl rfl rfl rfl ?_
  refine G_aload_n rfl rfl ?_
  refine G_aload_n rfl rfl ?_
  refine G_iload_n rfl rfl ?_
  refine G_iconst rfl ?_
  refine G_iadd rfl ?_
  refine G_saload (q := 0) (n := 0) (j := i + 1) rfl (nI_add i 1) rfl (by omega) hL ?_
  refine G_aload_n rfl rfl ?_
  refine G_iload_n rfl rfl ?_
  refine G_iconst rfl ?_
  refine G_iadd rfl ?_
  refine G_saload (q := 0) (n := 0) (j := i + 2) rfl (nI_add i 2) rfl (by omega) hL ?_
  refine H_callV c2 rfl rfl rfl rfl rfl rfl rfl rfl ?_
  exact G_icmp_eq rfl (fun _ => g) (fun q => absurd rfl q)
set_option maxRecDepth 100000 in
theorem lc_append {i : Nat} (hi : i + 3 < L) (hL : L < 2 ^ 31) (l4 l5 l6 l7 : Option Value) {S : Nat → Nat → Int32} {R : Nat → Nat} (h : CP S R) (nx : LN L xs i) : LE L xs 371 i l4 l5 l6 l7 S R := by
  obtain ⟨r, S1, R1, S2, c1, c2, hc⟩ := cs_append S R h (xs (i + 1))
  obtain ⟨S', R', g⟩ := nx S2 R1 hc l4 l5 l6 l7
  refine ⟨S', R', ?_⟩
  refine G_aload_n rfl rfl ?_
  refine G_aload_n rfl rfl ?_
  refine G_iload_n rfl rfl ?_
  refine G_iconst rfl ?_
  refine G_iadd rfl ?_
  refine G_saload (q := 0) (n := 0) (j := i + 1) rfl (nI_add i 1) rfl (by omega) hL ?_
  refine H_callV c1 rfl rfl rfl rfl rfl rfl rfl rfl ?_
  refine G_aload_n rfl rfl ?_
  refine G_aload_n rfl rfl ?_
  refine G_iload_n rfl rfl ?_
  refine G_iconst rfl ?_
  refine G_iadd rfl ?_
  refine G_saload (q := 0) (n := 0) (j := i + 1) rfl (nI_add i 1) rfl (by omega) hL ?_
  refine H_callV c2 rfl rfl rfl rfl rfl rfl rfl rfl ?_
  exact G_icmp_eq rfl (fun _ => g) (fun q => absurd rfl q)
set_option maxRecDepth 100000 in
theorem lc_clear {i : Nat} (hi : i + 3 < L) (hL : L < 2 ^ 31) (l4 l5 l6 l7 : Option Value) {S : Nat → Nat → Int32} {R : Nat → Nat} (h : CP S R) (nx : LN L xs i) : LE L xs 394 i l4 l5 l6 l7 S R := by
  obtain ⟨r, S1, R1, S2, c1, c2, hc⟩ := cs_clear S R h
  obtain ⟨S', R', g⟩ := nx S2 R1 hc l4 l5 l6 l7
  refine ⟨S', R', ?_⟩
  refine G_aload_n rfl rfl ?_
  refine H_callV c1 rfl rfl rfl rfl rfl rfl rfl rfl ?_
  refine G_aload_n rfl rfl ?_
  refine H_callV c2 rfl rfl rfl rfl rfl rfl rfl rfl ?_
  exact G_icmp_eq rfl (fun _ => g) (fun q => absurd rfl q)
set_option maxRecDepth 100000 in
theorem lc_fault {i : Nat} (hi : i + 3 < L) (hL : L < 2 ^ 31) (l4 l5 l6 l7 : Option Value) {S : Nat → Nat → Int32} {R : Nat → Nat} (h : CP S R) (nx : LN L xs i) : LE L xs 407 i l4 l5 l6 l7 S R := by
  obtain ⟨r, S1, R1, S2, c1, c2, hc⟩ := cs_fault S R h
  obtain ⟨S', R', g⟩ := nx S2 R1 hc l4 l5 l6 l7
  refine ⟨S', R', ?_⟩
  refine G_aload_n rfl rfl ?_
  refine H_callV c1 rfl rfl rfl rfl rfl rfl rfl rfl ?_
  refine G_aload_n rfl rfl ?_
  refine H_callV c2 rfl rfl rfl rfl rfl rfl rfl rfl ?_
  exact G_icmp_eq rfl (fun _ => g) (fun q => absurd rfl q)
set_option maxRecDepth 100000 in
theorem lc_take {i : Nat} (hi : i + 3 < L) (hL : L < 2 ^ 31) (l4 l5 l6 l7 : Option Value) {S : Nat → Nat → Int32} {R : Nat → Nat} (h : CP S R) (nx : LN L xs i) : LE L xs 420 i l4 l5 l6 l7 S R := by
  obtain ⟨r, S1, R1, S2, c1, c2, hc⟩ := cs_take S R h
  obtain ⟨S', R', g⟩ := nx S2 R1 hc l4 l5 l6 l7
  refine ⟨S', R', ?_⟩
  refine G_aload_n rfl rfl ?_
  refine H_callV c1 rfl rfl rfl rfl rfl rfl rfl rfl ?_
  refine G_aload_n rfl rfl ?_
  refine H_callV c2 rfl rfl rfl rfl rfl rfl rfl rfl ?_
  exact G_icmp_eq rfl (fun _ => g) (fun q => absurd rfl q)
set_option maxRecDepth 100000 in
theorem lc_why {i : Nat} (hi : i + 3 < L) (hL : L < 2 ^ 31) (l4 l5 l6 l7 : Option Value) {S : Nat → Nat → Int32} {R : Nat → Nat} (h : CP S R) (nx : LN L xs i) : LE L xs 433 i l4 l5 l6 l7 S R := by
  obtain ⟨r, S1, R1, S2, c1, c2, hc⟩ := cs_why S R h (xs (i + 1))
  obtain ⟨S', R', g⟩ := nx S2 R1 hc l4 l5 l6 l7
  refine ⟨S', R', ?_⟩
  refine G_aload_n rfl rfl ?_
  refine G_aload_n rfl rfl ?_
  refine G_iload_n rfl rfl ?_
  refine G_iconst rfl ?_
  refine G_iadd rfl ?_
  refine G_saload (q := 0) (n := 0) (j := i + 1) rfl (nI_add i 1) rfl (by omega) hL ?_
  refine H_callV c1 rfl rfl rfl rfl rfl rfl rfl rfl ?_
  refine G_aload_n rfl rfl ?_
  refine G_aload_n rfl rfl ?_
  refine G_iload_n rfl rfl ?_
  refine G_iconst rfl ?_
  refine G_iadd rfl ?_
  refine G_saload (q := 0) (n := 0) (j := i + 1) rfl (nI_add i 1) rfl (by omega) hL ?_
  refine H_callV c2 rfl rfl rfl rfl rfl rfl rfl rfl ?_
  exact G_icmp_eq rfl (fun _ => g) (fun q => absurd rfl q)
set_option maxRecDepth 100000 in
theorem lc_sign {i : Nat} (hi : i + 3 < L) (hL : L < 2 ^ 31) (l4 l5 l6 l7 : Option Value) {S : Nat → Nat → Int32} {R : Nat → Nat} (h : CP S R) (nx : LN L xs i) : LE L xs 456 i l4 l5 l6 l7 S R := by
  obtain ⟨r, S1, R1, S2, c1, c2, hc⟩ := cs_sign S R h (xs (i + 1)) (xs (i + 2))
  obtain ⟨S', R', g⟩ := nx S2 R1 hc l4 l5 l6 l7
  refine ⟨S', R', ?_⟩
  refine G_aload_n rfl rfl ?_
  refine G_aload_n rfl rfl ?_
  refine G_iload_n rfl rfl ?_
  refine G_iconst rfl ?_
  refine G_iadd rfl ?_
  refine G_saload (q := 0) (n := 0) (j := i + 1) rfl (nI_add i 1) rfl (by omega) hL ?_
  refine G_aload_n rfl rfl ?_
  refine G_iload_n rfl rfl ?_
  refine G_iconst rfl ?_
  refine G_iadd rfl ?_
  refine G_saload (q := 0) (n := 0) (j := i + 2) rfl (nI_add i 2) rfl (by omega) hL ?_
  refine H_callV c1 rfl rfl rfl rfl rfl rfl rfl rfl ?_
  refine G_aload_n rfl rfl ?_
  refine G_aload_n rfl rfl ?_
  refine G_iload_n rfl rfl ?_
  refine G_iconst rfl ?_
  refine G_iadd rfl ?_
  refine G_saload (q := 0) (n := 0) (j := i + 1) rfl (nI_add i 1) rfl (by omega) hL ?_
  refine G_aload_n rfl rfl ?_
  refine G_iload_n rfl rfl ?_
  refine G_iconst rfl ?_
  refine G_iadd rfl ?_
  refine G_saload (q := 0) (n := 0) (j := i + 2) rfl (nI_add i 2) rfl (by omega) hL ?_
  refine H_callV c2 rfl rfl rfl rfl rfl rfl rfl rfl ?_
  exact G_icmp_eq rfl (fun _ => g) (fun q => absurd rfl q)
set_option maxRecDepth 100000 in
theorem lc_reading {i : Nat} (hi : i + 3 < L) (hL : L < 2 ^ 31) (l4 l5 l6 l7 : Option Value) {S : Nat → Nat → Int32} {R : Nat → Nat} (h : CP S R) (nx : LN L xs i) : LE L xs 489 i l4 l5 l6 l7 S R := by
  obtain ⟨r, S1, R1, S2, c1, c2, hc⟩ := cs_reading S R h (xs (i + 1)) (xs (i + 2))
  obtain ⟨S', R', g⟩ := nx S2 R1 hc l4 l5 l6 l7
  refine ⟨S', R', ?_⟩
  refine G_aload_n rfl rfl ?_
  refine G_aload_n rfl rfl ?_
  refine G_iload_n rfl rfl ?_
  refine G_iconst rfl ?_
  refine G_iadd rfl ?_
  refine G_saload (q := 0) (n := 0) (j := i + 1) rfl (nI_add i 1) rfl (by omega) hL ?_
  refine G_aload_n rfl rfl ?_
  refine G_iload_n rfl rfl ?_
  refine G_iconst rfl ?_
  refine G_iadd rfl ?_
  refine G_saload (q := 0) (n := 0) (j := i + 2) rfl (nI_add i 2) rfl (by omega) hL ?_
  refine H_callV c1 rfl rfl rfl rfl rfl rfl rfl rfl ?_
  refine G_aload_n rfl rfl ?_
  refine G_aload_n rfl rfl ?_
  refine G_iload_n rfl rfl ?_
  refine G_iconst rfl ?_
  refine G_iadd rfl ?_
  refine G_saload (q := 0) (n := 0) (j := i + 1) rfl (nI_add i 1) rfl (by omega) hL ?_
  refine G_aload_n rfl rfl ?_
  refine G_iload_n rfl rfl ?_
  refine G_iconst rfl ?_
  refine G_iadd rfl ?_
  refine G_saload (q := 0) (n := 0) (j := i + 2) rfl (nI_add i 2) rfl (by omega) hL ?_
  refine H_callV c2 rfl rfl rfl rfl rfl rfl rfl rfl ?_
  exact G_icmp_eq rfl (fun _ => g) (fun q => absurd rfl q)
set_option maxRecDepth 100000 in
theorem lc_difference {i : Nat} (hi : i + 3 < L) (hL : L < 2 ^ 31) (l4 l5 l6 l7 : Option Value) {S : Nat → Nat → Int32} {R : Nat → Nat} (h : CP S R) (nx : LN L xs i) : LE L xs 522 i l4 l5 l6 l7 S R := by
  obtain ⟨r, S1, R1, S2, c1, c2, hc⟩ := cs_diff S R h (xs (i + 1)) (xs (i + 2)) (xs (i + 3))
  obtain ⟨S', R', g⟩ := nx S2 R1 hc l4 l5 l6 l7
  refine ⟨S', R', ?_⟩
  refine G_aload_n rfl rfl ?_
  refine G_aload_n rfl rfl ?_
  refine G_iload_n rfl rfl ?_
  refine G_iconst rfl ?_
  refine G_iadd rfl ?_
  refine G_saload (q := 0) (n := 0) (j := i + 1) rfl (nI_add i 1) rfl (by omega) hL ?_
  refine G_aload_n rfl rfl ?_
  refine G_iload_n rfl rfl ?_
  refine G_iconst rfl ?_
  refine G_iadd rfl ?_
  refine G_saload (q := 0) (n := 0) (j := i + 2) rfl (nI_add i 2) rfl (by omega) hL ?_
  refine G_aload_n rfl rfl ?_
  refine G_iload_n rfl rfl ?_
  refine G_iconst rfl ?_
  refine G_iadd rfl ?_
  refine G_saload (q := 0) (n := 0) (j := i + 3) rfl (nI_add i 3) rfl (by omega) hL ?_
  refine H_callV c1 rfl rfl rfl rfl rfl rfl rfl rfl ?_
  refine G_aload_n rfl rfl ?_
  refine G_aload_n rfl rfl ?_
  refine G_iload_n rfl rfl ?_
  refine G_iconst rfl ?_
  refine G_iadd rfl ?_
  refine G_saload (q := 0) (n := 0) (j := i + 1) rfl (nI_add i 1) rfl (by omega) hL ?_
  refine G_aload_n rfl rfl ?_
  refine G_iload_n rfl rfl ?_
  refine G_iconst rfl ?_
  refine G_iadd rfl ?_
  refine G_saload (q := 0) (n := 0) (j := i + 2) rfl (nI_add i 2) rfl (by omega) hL ?_
  refine G_aload_n rfl rfl ?_
  refine G_iload_n rfl rfl ?_
  refine G_iconst rfl ?_
  refine G_iadd rfl ?_
  refine G_saload (q := 0) (n := 0) (j := i + 3) rfl (nI_add i 3) rfl (by omega) hL ?_
  refine H_callV c2 rfl rfl rfl rfl rfl rfl rfl rfl ?_
  exact G_icmp_eq rfl (fun _ => g) (fun q => absurd rfl q)
set_option maxRecDepth 100000 in
theorem lc_follows {i : Nat} (hi : i + 3 < L) (hL : L < 2 ^ 31) (l4 l5 l6 l7 : Option Value) {S : Nat → Nat → Int32} {R : Nat → Nat} (h : CP S R) (nx : LN L xs i) : LE L xs 565 i l4 l5 l6 l7 S R := by
  obtain ⟨r, S1, R1, S2, c1, c2, hc⟩ := cs_follows S R h (xs (i + 1)) (xs (i + 2))
  obtain ⟨S', R', g⟩ := nx S2 R1 hc l4 l5 l6 l7
  refine ⟨S', R', ?_⟩
  refine G_aload_n rfl rfl ?_
  refine G_aload_n rfl rfl ?_
  refine G_iload_n rfl rfl ?_
  refine G_iconst rfl ?_
  refine G_iadd rfl ?_
  refine G_saload (q := 0) (n := 0) (j := i + 1) rfl (nI_add i 1) rfl (by omega) hL ?_
  refine G_aload_n rfl rfl ?_
  refine G_iload_n rfl rfl ?_
  refine G_iconst rfl ?_
  refine G_iadd rfl ?_
  refine G_saload (q := 0) (n := 0) (j := i + 2) rfl (nI_add i 2) rfl (by omega) hL ?_
  refine H_callV c1 rfl rfl rfl rfl rfl rfl rfl rfl ?_
  refine G_aload_n rfl rfl ?_
  refine G_aload_n rfl rfl ?_
  refine G_iload_n rfl rfl ?_
  refine G_iconst rfl ?_
  refine G_iadd rfl ?_
  refine G_saload (q := 0) (n := 0) (j := i + 1) rfl (nI_add i 1) rfl (by omega) hL ?_
  refine G_aload_n rfl rfl ?_
  refine G_iload_n rfl rfl ?_
  refine G_iconst rfl ?_
  refine G_iadd rfl ?_
  refine G_saload (q := 0) (n := 0) (j := i + 2) rfl (nI_add i 2) rfl (by omega) hL ?_
  refine H_callV c2 rfl rfl rfl rfl rfl rfl rfl rfl ?_
  exact G_icmp_eq rfl (fun _ => g) (fun q => absurd rfl q)
set_option maxRecDepth 100000 in
theorem lc_zeros {i : Nat} (hi : i + 3 < L) (hL : L < 2 ^ 31) (l4 l5 l6 l7 : Option Value) {S : Nat → Nat → Int32} {R : Nat → Nat} (h : CP S R) (nx : LN L xs i) : LE L xs 598 i l4 l5 l6 l7 S R := by
  obtain ⟨r, S1, R1, S2, c1, c2, hc⟩ := cs_zeros S R h (xs (i + 1)) (xs (i + 2))
  obtain ⟨S', R', g⟩ := nx S2 R1 hc l4 l5 l6 l7
  refine ⟨S', R', ?_⟩
  refine G_aload_n rfl rfl ?_
  refine G_aload_n rfl rfl ?_
  refine G_iload_n rfl rfl ?_
  refine G_iconst rfl ?_
  refine G_iadd rfl ?_
  refine G_saload (q := 0) (n := 0) (j := i + 1) rfl (nI_add i 1) rfl (by omega) hL ?_
  refine G_aload_n rfl rfl ?_
  refine G_iload_n rfl rfl ?_
  refine G_iconst rfl ?_
  refine G_iadd rfl ?_
  refine G_saload (q := 0) (n := 0) (j := i + 2) rfl (nI_add i 2) rfl (by omega) hL ?_
  refine H_callV c1 rfl rfl rfl rfl rfl rfl rfl rfl ?_
  refine G_aload_n rfl rfl ?_
  refine G_aload_n rfl rfl ?_
  refine G_iload_n rfl rfl ?_
  refine G_iconst rfl ?_
  refine G_iadd rfl ?_
  refine G_saload (q := 0) (n := 0) (j := i + 1) rfl (nI_add i 1) rfl (by omega) hL ?_
  refine G_aload_n rfl rfl ?_
  refine G_iload_n rfl rfl ?_
  refine G_iconst rfl ?_
  refine G_iadd rfl ?_
  refine G_saload (q := 0) (n := 0) (j := i + 2) rfl (nI_add i 2) rfl (by omega) hL ?_
  refine H_callV c2 rfl rfl rfl rfl rfl rfl rfl rfl ?_
  exact G_icmp_eq rfl (fun _ => g) (fun q => absurd rfl q)
set_option maxRecDepth 100000 in
theorem lc_whyNot {i : Nat} (hi : i + 3 < L) (hL : L < 2 ^ 31) (l4 l5 l6 l7 : Option Value) {S : Nat → Nat → Int32} {R : Nat → Nat} (h : CP S R) (nx : LN L xs i) : LE L xs 631 i l4 l5 l6 l7 S R := by
  obtain ⟨r, S1, R1, S2, c1, c2, hc⟩ := cs_whyNot S R h (xs (i + 1)) (xs (i + 2)) (xs (i + 3))
  obtain ⟨S', R', g⟩ := nx S2 R1 hc l4 l5 l6 l7
  refine ⟨S', R', ?_⟩
  refine G_aload_n rfl rfl ?_
  refine G_aload_n rfl rfl ?_
  refine G_iload_n rfl rfl ?_
  refine G_iconst rfl ?_
  refine G_iadd rfl ?_
  refine G_saload (q := 0) (n := 0) (j := i + 1) rfl (nI_add i 1) rfl (by omega) hL ?_
  refine G_aload_n rfl rfl ?_
  refine G_iload_n rfl rfl ?_
  refine G_iconst rfl ?_
  refine G_iadd rfl ?_
  refine G_saload (q := 0) (n := 0) (j := i + 2) rfl (nI_add i 2) rfl (by omega) hL ?_
  refine G_aload_n rfl rfl ?_
  refine G_iload_n rfl rfl ?_
  refine G_iconst rfl ?_
  refine G_iadd rfl ?_
  refine G_saload (q := 0) (n := 0) (j := i + 3) rfl (nI_add i 3) rfl (by omega) hL ?_
  refine H_callV c1 rfl rfl rfl rfl rfl rfl rfl rfl ?_
  refine G_aload_n rfl rfl ?_
  refine G_aload_n rfl rfl ?_
  refine G_iload_n rfl rfl ?_
  refine G_iconst rfl ?_
  refine G_iadd rfl ?_
  refine G_saload (q := 0) (n := 0) (j := i + 1) rfl (nI_add i 1) rfl (by omega) hL ?_
  refine G_aload_n rfl rfl ?_
  refine G_iload_n rfl rfl ?_
  refine G_iconst rfl ?_
  refine G_iadd rfl ?_
  refine G_saload (q := 0) (n := 0) (j := i + 2) rfl (nI_add i 2) rfl (by omega) hL ?_
  refine G_aload_n rfl rfl ?_
  refine G_iload_n rfl rfl ?_
  refine G_iconst rfl ?_
  refine G_iadd rfl ?_
  refine G_saload (q := 0) (n := 0) (j := i + 3) rfl (nI_add i 3) rfl (by omega) hL ?_
  refine H_callV c2 rfl rfl rfl rfl rfl rfl rfl rfl ?_
  exact G_icmp_eq rfl (fun _ => g) (fun q => absurd rfl q)
set_option maxRecDepth 100000 in
theorem lc_holding {i : Nat} (hi : i + 3 < L) (hL : L < 2 ^ 31) (l4 l5 l6 l7 : Option Value) {S : Nat → Nat → Int32} {R : Nat → Nat} (h : CP S R) (nx : LN L xs i) : LE L xs 674 i l4 l5 l6 l7 S R := by
  obtain ⟨r, S1, R1, S2, c1, c2, hc⟩ := cs_holding S R h (xs (i + 1))
  obtain ⟨S', R', g⟩ := nx S2 R1 hc l4 l5 l6 l7
  refine ⟨S', R', ?_⟩
  refine G_aload_n rfl rfl ?_
  refine G_aload_n rfl rfl ?_
  refine G_iload_n rfl rfl ?_
  refine G_iconst rfl ?_
  refine G_iadd rfl ?_
  refine G_saload (q := 0) (n := 0) (j := i + 1) rfl (nI_add i 1) rfl (by omega) hL ?_
  refine H_callV c1 rfl rfl rfl rfl rfl rfl rfl rfl ?_
  refine G_aload_n rfl rfl ?_
  refine G_aload_n rfl rfl ?_
  refine G_iload_n rfl rfl ?_
  refine G_iconst rfl ?_
  refine G_iadd rfl ?_
  refine G_saload (q := 0) (n := 0) (j := i + 1) rfl (nI_add i 1) rfl (by omega) hL ?_
  refine H_callV c2 rfl rfl rfl rfl rfl rfl rfl rfl ?_
  exact G_icmp_eq rfl (fun _ => g) (fun q => absurd rfl q)
set_option maxRecDepth 100000 in
theorem lc_point {i : Nat} (hi : i + 3 < L) (hL : L < 2 ^ 31) (l4 l5 l6 l7 : Option Value) {S : Nat → Nat → Int32} {R : Nat → Nat} (h : CP S R) (nx : LN L xs i) : LE L xs 697 i l4 l5 l6 l7 S R := by
  obtain ⟨r, S1, R1, S2, c1, c2, hc⟩ := cs_point S R h (xs (i + 1)) (xs (i + 2))
  obtain ⟨S', R', g⟩ := nx S2 R1 hc l4 l5 l6 l7
  refine ⟨S', R', ?_⟩
  refine G_aload_n rfl rfl ?_
  refine G_aload_n rfl rfl ?_
  refine G_iload_n rfl rfl ?_
  refine G_iconst rfl ?_
  refine G_iadd rfl ?_
  refine G_saload (q := 0) (n := 0) (j := i + 1) rfl (nI_add i 1) rfl (by omega) hL ?_
  refine G_aload_n rfl rfl ?_
  refine G_iload_n rfl rfl ?_
  refine G_iconst rfl ?_
  refine G_iadd rfl ?_
  refine G_saload (q := 0) (n := 0) (j := i + 2) rfl (nI_add i 2) rfl (by omega) hL ?_
  refine H_callV c1 rfl rfl rfl rfl rfl rfl rfl rfl ?_
  refine G_aload_n rfl rfl ?_
  refine G_aload_n rfl rfl ?_
  refine G_iload_n rfl rfl ?_
  refine G_iconst rfl ?_
  refine G_iadd rfl ?_
  refine G_saload (q := 0) (n := 0) (j := i + 1) rfl (nI_add i 1) rfl (by omega) hL ?_
  refine G_aload_n rfl rfl ?_
  refine G_iload_n rfl rfl ?_
  refine G_iconst rfl ?_
  refine G_iadd rfl ?_
  refine G_saload (q := 0) (n := 0) (j := i + 2) rfl (nI_add i 2) rfl (by omega) hL ?_
  refine H_callV c2 rfl rfl rfl rfl rfl rfl rfl rfl ?_
  exact G_icmp_eq rfl (fun _ => g) (fun q => absurd rfl q)
set_option maxRecDepth 100000 in
theorem lc_tapeOf {i : Nat} (hi : i + 3 < L) (hL : L < 2 ^ 31) (l4 l5 l6 l7 : Option Value) {S : Nat → Nat → Int32} {R : Nat → Nat} (h : CP S R) (nx : LN L xs i) : LE L xs 730 i l4 l5 l6 l7 S R := by
  obtain ⟨r, S1, R1, S2, c1, c2, hc⟩ := cs_tapeOf S R h (xs (i + 1)) (xs (i + 2))
  obtain ⟨S', R', g⟩ := nx S2 R1 hc l4 l5 l6 l7
  refine ⟨S', R', ?_⟩
  refine G_aload_n rfl rfl ?_
  refine G_aload_n rfl rfl ?_
  refine G_iload_n rfl rfl ?_
  refine G_iconst rfl ?_
  refine G_iadd rfl ?_
  refine G_saload (q := 0) (n := 0) (j := i + 1) rfl (nI_add i 1) rfl (by omega) hL ?_
  refine G_aload_n rfl rfl ?_
  refine G_iload_n rfl rfl ?_
  refine G_iconst rfl ?_
  refine G_iadd rfl ?_
  refine G_saload (q := 0) (n := 0) (j := i + 2) rfl (nI_add i 2) rfl (by omega) hL ?_
  refine H_callV c1 rfl rfl rfl rfl rfl rfl rfl rfl ?_
  refine G_aload_n rfl rfl ?_
  refine G_aload_n rfl rfl ?_
  refine G_iload_n rfl rfl ?_
  refine G_iconst rfl ?_
  refine G_iadd rfl ?_
  refine G_saload (q := 0) (n := 0) (j := i + 1) rfl (nI_add i 1) rfl (by omega) hL ?_
  refine G_aload_n rfl rfl ?_
  refine G_iload_n rfl rfl ?_
  refine G_iconst rfl ?_
  refine G_iadd rfl ?_
  refine G_saload (q := 0) (n := 0) (j := i + 2) rfl (nI_add i 2) rfl (by omega) hL ?_
  refine H_callV c2 rfl rfl rfl rfl rfl rfl rfl rfl ?_
  exact G_icmp_eq rfl (fun _ => g) (fun q => absurd rfl q)
set_option maxRecDepth 100000 in
theorem lc_count {i : Nat} (hi : i + 3 < L) (hL : L < 2 ^ 31) (l4 l5 l6 l7 : Option Value) {S : Nat → Nat → Int32} {R : Nat → Nat} (h : CP S R) (nx : LN L xs i) : LE L xs 763 i l4 l5 l6 l7 S R := by
  obtain ⟨r, S1, R1, S2, c1, c2, hc⟩ := cs_count S R h (xs (i + 1))
  obtain ⟨S', R', g⟩ := nx S2 R1 hc l4 l5 l6 l7
  refine ⟨S', R', ?_⟩
  refine G_aload_n rfl rfl ?_
  refine G_aload_n rfl rfl ?_
  refine G_iload_n rfl rfl ?_
  refine G_iconst rfl ?_
  refine G_iadd rfl ?_
  refine G_saload (q := 0) (n := 0) (j := i + 1) rfl (nI_add i 1) rfl (by omega) hL ?_
  refine H_callV c1 rfl rfl rfl rfl rfl rfl rfl rfl ?_
  refine G_aload_n rfl rfl ?_
  refine G_aload_n rfl rfl ?_
  refine G_iload_n rfl rfl ?_
  refine G_iconst rfl ?_
  refine G_iadd rfl ?_
  refine G_saload (q := 0) (n := 0) (j := i + 1) rfl (nI_add i 1) rfl (by omega) hL ?_
  refine H_callV c2 rfl rfl rfl rfl rfl rfl rfl rfl ?_
  exact G_icmp_eq rfl (fun _ => g) (fun q => absurd rfl q)
set_option maxRecDepth 100000 in
theorem lc_ifRead {i : Nat} (hi : i + 3 < L) (hL : L < 2 ^ 31) (l4 l5 l6 l7 : Option Value) {S : Nat → Nat → Int32} {R : Nat → Nat} (h : CP S R) (nx : LN L xs i) : LE L xs 827 i l4 l5 l6 l7 S R := by
  obtain ⟨r, S1, R1, S2, c1, c2, hc⟩ := cs_ifRead S R h (xs (i + 1)) (xs (i + 2))
  obtain ⟨S', R', g⟩ := nx S2 R1 hc l4 l5 l6 l7
  refine ⟨S', R', ?_⟩
  refine G_aload_n rfl rfl ?_
  refine G_aload_n rfl rfl ?_
  refine G_iload_n rfl rfl ?_
  refine G_iconst rfl ?_
  refine G_iadd rfl ?_
  refine G_saload (q := 0) (n := 0) (j := i + 1) rfl (nI_add i 1) rfl (by omega) hL ?_
  refine G_aload_n rfl rfl ?_
  refine G_iload_n rfl rfl ?_
  refine G_iconst rfl ?_
  refine G_iadd rfl ?_
  refine G_saload (q := 0) (n := 0) (j := i + 2) rfl (nI_add i 2) rfl (by omega) hL ?_
  refine H_callV c1 rfl rfl rfl rfl rfl rfl rfl rfl ?_
  refine G_aload_n rfl rfl ?_
  refine G_aload_n rfl rfl ?_
  refine G_iload_n rfl rfl ?_
  refine G_iconst rfl ?_
  refine G_iadd rfl ?_
  refine G_saload (q := 0) (n := 0) (j := i + 1) rfl (nI_add i 1) rfl (by omega) hL ?_
  refine G_aload_n rfl rfl ?_
  refine G_iload_n rfl rfl ?_
  refine G_iconst rfl ?_
  refine G_iadd rfl ?_
  refine G_saload (q := 0) (n := 0) (j := i + 2) rfl (nI_add i 2) rfl (by omega) hL ?_
  refine H_callV c2 rfl rfl rfl rfl rfl rfl rfl rfl ?_
  exact G_icmp_eq rfl (fun _ => g) (fun q => absurd rfl q)
set_option maxRecDepth 100000 in
theorem lc_bestReading {i : Nat} (hi : i + 3 < L) (hL : L < 2 ^ 31) (l4 l5 l6 l7 : Option Value) {S : Nat → Nat → Int32} {R : Nat → Nat} (h : CP S R) (nx : LN L xs i) : LE L xs 860 i l4 l5 l6 l7 S R := by
  obtain ⟨r, S1, R1, S2, c1, c2, hc⟩ := cs_best S R h
  obtain ⟨S', R', g⟩ := nx S2 R1 hc l4 l5 l6 l7
  refine ⟨S', R', ?_⟩
  refine G_aload_n rfl rfl ?_
  refine H_callV c1 rfl rfl rfl rfl rfl rfl rfl rfl ?_
  refine G_aload_n rfl rfl ?_
  refine H_callV c2 rfl rfl rfl rfl rfl rfl rfl rfl ?_
  exact G_icmp_eq rfl (fun _ => g) (fun q => absurd rfl q)
set_option maxRecDepth 100000 in
theorem lc_undo {i : Nat} (hi : i + 3 < L) (hL : L < 2 ^ 31) (l4 l5 l6 l7 : Option Value) {S : Nat → Nat → Int32} {R : Nat → Nat} (h : CP S R) (nx : LN L xs i) : LE L xs 873 i l4 l5 l6 l7 S R := by
  obtain ⟨r, S1, R1, S2, c1, c2, hc⟩ := cs_undo S R h
  obtain ⟨S', R', g⟩ := nx S2 R1 hc l4 l5 l6 l7
  refine ⟨S', R', ?_⟩
  refine G_aload_n rfl rfl ?_
  refine H_callV c1 rfl rfl rfl rfl rfl rfl rfl rfl ?_
  refine G_aload_n rfl rfl ?_
  refine H_callV c2 rfl rfl rfl rfl rfl rfl rfl rfl ?_
  exact G_icmp_eq rfl (fun _ => g) (fun q => absurd rfl q)
set_option maxRecDepth 100000 in
theorem lc_save {i : Nat} (hi : i + 3 < L) (hL : L < 2 ^ 31) (l4 l5 l6 l7 : Option Value) {S : Nat → Nat → Int32} {R : Nat → Nat} (h : CP S R) (nx : LN L xs i) : LE L xs 886 i l4 l5 l6 l7 S R := by
  obtain ⟨r, S1, R1, S2, c1, c2, hc⟩ := cs_save S R h
  obtain ⟨S', R', g⟩ := nx S2 R1 hc l4 l5 l6 l7
  refine ⟨S', R', ?_⟩
  refine G_aload_n rfl rfl ?_
  refine H_callV c1 rfl rfl rfl rfl rfl rfl rfl rfl ?_
  refine G_aload_n rfl rfl ?_
  refine H_callV c2 rfl rfl rfl rfl rfl rfl rfl rfl ?_
  exact G_icmp_eq rfl (fun _ => g) (fun q => absurd rfl q)
set_option maxRecDepth 100000 in
theorem lc_restore {i : Nat} (hi : i + 3 < L) (hL : L < 2 ^ 31) (l4 l5 l6 l7 : Option Value) {S : Nat → Nat → Int32} {R : Nat → Nat} (h : CP S R) (nx : LN L xs i) : LE L xs 899 i l4 l5 l6 l7 S R := by
  obtain ⟨r, S1, R1, S2, c1, c2, hc⟩ := cs_restore S R h
  obtain ⟨S', R', g⟩ := nx S2 R1 hc l4 l5 l6 l7
  refine ⟨S', R', ?_⟩
  refine G_aload_n rfl rfl ?_
  refine H_callV c1 rfl rfl rfl rfl rfl rfl rfl rfl ?_
  refine G_aload_n rfl rfl ?_
  refine H_callV c2 rfl rfl rfl rfl rfl rfl rfl rfl ?_
  exact G_icmp_eq rfl (fun _ => g) (fun q => absurd rfl q)
set_option maxRecDepth 100000 in
theorem lc_known {i : Nat} (l4 l5 l6 l7 : Option Value) {S : Nat → Nat → Int32} {R : Nat → Nat} (h : CP S R) (nx : LN L xs i) : LE L xs 786 i l4 l5 l6 l7 S R := by
  obtain ⟨r, S1, S2, hr, c1, c2, hc⟩ := cs_known S R h
  obtain ⟨S', R', g⟩ := nx S2 R hc (some (.double r)) none (some (.double r)) none
  refine ⟨S', R', ?_⟩
  refine G_aload_n rfl rfl ?_
  refine H_callV c1 rfl rfl rfl rfl rfl rfl rfl rfl ?_
  refine G_dstore rfl rfl ?_
  refine G_aload_n rfl rfl ?_
  refine H_callV c2 rfl rfl rfl rfl rfl rfl rfl rfl ?_
  refine G_dstore rfl rfl ?_
  refine G_dload rfl rfl ?_
  refine G_dload rfl rfl ?_
  refine G_dcmpl rfl ?_
  have g' : G L xs 0 0 824 (ll i (some (.double r)) none (some (.double r)) none) [] (S2, PF R, 32) (some (.int 1)) (S', PF R', 32) := G_goto rfl g
  refine G_if_eq rfl (fun _ => g') (fun h1 => ?_)
  refine G_dload rfl rfl ?_
  refine G_dload rfl rfl ?_
  refine G_dcmpl rfl ?_
  refine G_if_eq rfl (fun h2 => absurd h2 h1) (fun _ => ?_)
  refine G_dload rfl rfl ?_
  refine G_dload rfl rfl ?_
  refine G_dcmpl rfl ?_
  exact G_if_ne rfl (fun _ => g') (fun h2 => absurd h1 h2)
theorem sub4 {i L : Nat} (hi : i ≤ 5000) (hL : L ≤ 2048) : nI L - 4 < nI i ↔ L < i + 4 := by
  rw [Int32.lt_iff_toInt_lt, Int32.toInt_sub, nI_toInt (show L < 2 ^ 31 by omega), nI_toInt (show i < 2 ^ 31 by omega), show (4 : Int32).toInt = 4 by decide, Int.bmod_eq_of_le (by omega) (by omega)]
  omega
set_option maxRecDepth 100000 in
theorem law_loop (hL : L ≤ 2048) : ∀ (d i : Nat) (S : Nat → Nat → Int32) (R : Nat → Nat), CP S R → L < i + d → i ≤ 2052 → ∀ l4 l5 l6 l7, LE L xs 18 i l4 l5 l6 l7 S R := by
  have stop : ∀ (i : Nat) (S : Nat → Nat → Int32) (R : Nat → Nat), L < i + 4 → i ≤ 2052 → ∀ l4 l5 l6 l7, LE L xs 18 i l4 l5 l6 l7 S R := by
    intro i S R hd hi l4 l5 l6 l7
    refine ⟨S, R, ?_⟩
    refine G_iload_n rfl rfl ?_
    refine G_aload_n rfl rfl ?_
    refine G_slen rfl rfl ?_
    refine G_iconst rfl ?_
    refine G_isub rfl ?_
    refine G_icmp_gt rfl (fun _ => ?_) (fun h => absurd ((sub4 (by omega) hL).mpr hd) h)
    refine G_iconst rfl ?_
    exact G_ret rfl rfl rfl rfl
  intro d
  induction d with
  | zero =>
    intro i S R hc hd hi l4 l5 l6 l7
    exact stop i S R (by omega) hi l4 l5 l6 l7
  | succ d ih =>
    intro i S R hc hd hi l4 l5 l6 l7
    by_cases hs4 : L < i + 4
    · exact stop i S R hs4 hi l4 l5 l6 l7
    · have nx : LN L xs i := fun S2 R2 hc2 m4 m5 m6 m7 => by
        obtain ⟨S', R', g⟩ := ih (i + 4) S2 R2 hc2 (by omega) (by omega) m4 m5 m6 m7
        refine ⟨S', R', ?_⟩
        refine G_iinc rfl rfl rfl ?_
        refine G_goto rfl ?_
        have e : nI i + 4 = nI (i + 4) := nI_add i 4
        unfold ll at g
        rw [← e] at g
        exact g
      have hi3 : i + 3 < L := by omega
      have hL31 : L < 2 ^ 31 := by omega
      have pre : ∀ S' R', G L xs 0 0 32 (ll i l4 l5 l6 l7) [.int (xs i &&& 31)] (S, PF R, 32) (some (.int 1)) (S', PF R', 32) → LE L xs 18 i l4 l5 l6 l7 S R := fun S' R' g => by
        refine ⟨S', R', ?_⟩
        refine G_iload_n rfl rfl ?_
        refine G_aload_n rfl rfl ?_
        refine G_slen rfl rfl ?_
        refine G_iconst rfl ?_
        refine G_isub rfl ?_
        refine G_icmp_gt rfl (fun h => absurd ((sub4 (by omega) hL).mp h) hs4) (fun _ => ?_)
        refine G_aload_n rfl rfl ?_
        refine G_iload_n rfl rfl ?_
        refine G_saload (q := 0) (n := 0) (j := i) rfl rfl rfl (by omega) hL31 ?_
        refine G_bipush rfl ?_
        refine G_iand rfl ?_
        exact g
      have one : ∀ (j t : Nat), xs i &&& 31 = nI j → (swt 0).2.2.1[j]? = some t → LE L xs t i l4 l5 l6 l7 S R → LE L xs 18 i l4 l5 l6 l7 S R := fun j t hx ht hg => by
        obtain ⟨S', R', g⟩ := hg
        exact pre S' R' (G_sw1 rfl rfl rfl (by decide) hx ht g)
      have out : (xs i &&& 31 < 0 ∨ nI 28 ≤ xs i &&& 31) → LE L xs 18 i l4 l5 l6 l7 S R := fun hx => by
        obtain ⟨S', R', g⟩ := nx S R hc l4 l5 l6 l7
        exact pre S' R' (G_sw0 rfl rfl rfl (by decide) hx g)
      rcases pk_ix (xs i &&& 31) (n := 28) (by decide) with h | h | ⟨j, hj, hx⟩
      · exact out (Or.inl h)
      · exact out (Or.inr h)
      · match j, hj, hx with
        | 0, _, hx => exact one 0 160 hx rfl (lc_tape hi3 hL31 l4 l5 l6 l7 hc nx)
        | 1, _, hx => exact one 1 173 hx rfl (lc_drop hi3 hL31 l4 l5 l6 l7 hc nx)
        | 2, _, hx => exact one 2 196 hx rfl (lc_shift hi3 hL31 l4 l5 l6 l7 hc nx)
        | 3, _, hx => exact one 3 229 hx rfl (lc_cut hi3 hL31 l4 l5 l6 l7 hc nx)
        | 4, _, hx => exact one 4 262 hx rfl (lc_glue hi3 hL31 l4 l5 l6 l7 hc nx)
        | 5, _, hx => exact one 5 295 hx rfl (lc_read hi3 hL31 l4 l5 l6 l7 hc nx)
        | 6, _, hx => exact one 6 338 hx rfl (lc_lose hi3 hL31 l4 l5 l6 l7 hc nx)
        | 7, _, hx => exact one 7 371 hx rfl (lc_append hi3 hL31 l4 l5 l6 l7 hc nx)
        | 8, _, hx => exact one 8 394 hx rfl (lc_clear hi3 hL31 l4 l5 l6 l7 hc nx)
        | 9, _, hx => exact one 9 407 hx rfl (lc_fault hi3 hL31 l4 l5 l6 l7 hc nx)
        | 10, _, hx => exact one 10 420 hx rfl (lc_take hi3 hL31 l4 l5 l6 l7 hc nx)
        | 11, _, hx => exact one 11 433 hx rfl (lc_why hi3 hL31 l4 l5 l6 l7 hc nx)
        | 12, _, hx => exact one 12 456 hx rfl (lc_sign hi3 hL31 l4 l5 l6 l7 hc nx)
        | 13, _, hx => exact one 13 489 hx rfl (lc_reading hi3 hL31 l4 l5 l6 l7 hc nx)
        | 14, _, hx => exact one 14 522 hx rfl (lc_difference hi3 hL31 l4 l5 l6 l7 hc nx)
        | 15, _, hx => exact one 15 565 hx rfl (lc_follows hi3 hL31 l4 l5 l6 l7 hc nx)
        | 16, _, hx => exact one 16 598 hx rfl (lc_zeros hi3 hL31 l4 l5 l6 l7 hc nx)
        | 17, _, hx => exact one 17 631 hx rfl (lc_whyNot hi3 hL31 l4 l5 l6 l7 hc nx)
        | 18, _, hx => exact one 18 674 hx rfl (lc_holding hi3 hL31 l4 l5 l6 l7 hc nx)
        | 19, _, hx => exact one 19 697 hx rfl (lc_point hi3 hL31 l4 l5 l6 l7 hc nx)
        | 20, _, hx => exact one 20 730 hx rfl (lc_tapeOf hi3 hL31 l4 l5 l6 l7 hc nx)
        | 21, _, hx => exact one 21 763 hx rfl (lc_count hi3 hL31 l4 l5 l6 l7 hc nx)
        | 22, _, hx => exact one 22 786 hx rfl (lc_known l4 l5 l6 l7 hc nx)
        | 23, _, hx => exact one 23 827 hx rfl (lc_ifRead hi3 hL31 l4 l5 l6 l7 hc nx)
        | 24, _, hx => exact one 24 860 hx rfl (lc_bestReading hi3 hL31 l4 l5 l6 l7 hc nx)
        | 25, _, hx => exact one 25 873 hx rfl (lc_undo hi3 hL31 l4 l5 l6 l7 hc nx)
        | 26, _, hx => exact one 26 886 hx rfl (lc_save hi3 hL31 l4 l5 l6 l7 hc nx)
        | 27, _, hx => exact one 27 899 hx rfl (lc_restore hi3 hL31 l4 l5 l6 l7 hc nx)
        | j + 28, hj, _ => omega
end LAW
theorem tI_no {j : Nat} (hj : j < 96) : tI j = NONE := if_pos hj
theorem CP_0 {S : Nat → Nat → Int32} (hz : ∀ i, i ≠ 2 → i ≠ 21 → S i = fun _ => 0) (h2 : S 2 = tI) : CP S R0 := by
  have no : ∀ j, j < 96 → hs tI j = false := fun j hj => by unfold hs; rw [tI_no hj]; rfl
  have c0 : cnt (hs tI) 96 = 0 := cnt_none no
  have z : ∀ i j, i ≠ 2 → i ≠ 21 → S i j = 0 := fun i j h1 h2 => by rw [hz i h1 h2]
  refine ⟨⟨fun j hj => ⟨Nat.le_add_right _ _, by unfold R0; omega⟩, fun i j _ _ e => by unfold R0 at e; omega⟩, ⟨0, ?_, ⟨fun _ => 0, ?_⟩, ?_⟩, ⟨0, z 3 1 (by decide) (by decide), by decide, z 24 2 (by decide) (by decide), fun k hk => absurd hk (Nat.not_lt_zero k)⟩, ⟨false, z 0 3 (by decide) (by decide), z 24 4 (by decide) (by decide), fun q => by cases q⟩, ⟨0, z 10 1 (by decide) (by decide), z 24 6 (by decide) (by decide), by decide, by rw [hz 11 (by decide) (by decide), hz 28 (by decide) (by decide)]⟩, false, z 0 6 (by decide) (by decide), z 24 14 (by decide) (by decide), fun q => by cases q⟩
  · rw [h2]
    refine ⟨⟨rfl, by decide, fun j _ hj => tI_no hj⟩, fun j hj hh => (by rw [no j hj] at hh; cases hh), z 25 0 (by decide) (by decide), by rw [c0]; exact z 25 1 (by decide) (by decide), z 25 2 (by decide) (by decide), z 25 3 (by decide) (by decide), z 25 4 (by decide) (by decide), z 25 5 (by decide) (by decide), fun j hj => ?_⟩
    rw [tI_no hj, z 25 (6 + j) (by decide) (by decide)]
    rfl
  · rw [h2]
    exact fun j hj hh => by rw [no j hj] at hh; cases hh
  · rw [h2, c0]
    decide
set_option maxRecDepth 100000 in
theorem law_walk {L : Nat} {xs : Nat → Int32} (hL : L ≤ 2048) : ∃ S' R', G L xs 0 0 0 [some (.ref 1000), none, none, none, none, none, none, none] [] (fun _ _ => 0, fun _ _ => none, 0) (some (.int 1)) (S', PF R', 32) := by
  obtain ⟨S', R', g⟩ := law_loop (xs := xs) hL (L + 1) 0 (u2 (u2 (fun _ _ => 0) 2 tI) 21 tI) R0 (CP_0 (fun i h1 h2 => by rw [u2_ne h2, u2_ne h1]) (by rw [u2_ne (by decide), u2_same])) (by omega) (by omega) none none none none
  refine ⟨S', R', ?_⟩
  rw [← PK_0]
  have hz : ∀ i, 1 ≤ i → (fun _ _ => 0 : Nat → Nat → Int32) i = fun _ => 0 := fun _ _ => rfl
  refine C_new (q := 0) (c := 0) rfl rfl rfl (by decide +kernel) rfl ?_
  refine G_dup rfl rfl ?_
  refine G_callI (a := 0) (ci_X hz) rfl rfl rfl rfl rfl rfl ?_
  refine G_astore_n rfl rfl ?_
  refine C_new (q := 24) (c := 23) rfl rfl (by rw [u2_ne (by decide), u2_ne (by decide)]) (by decide +kernel) rfl ?_
  refine G_dup rfl rfl ?_
  refine G_callI (a := 0) (ci_M (fun i hi => by rw [u2_ne (by omega), u2_ne (by omega)])) rfl rfl rfl rfl rfl rfl ?_
  refine G_astore_n rfl rfl ?_
  refine G_iconst rfl ?_
  refine G_istore_n rfl rfl ?_
  rw [PK_end]
  exact g
