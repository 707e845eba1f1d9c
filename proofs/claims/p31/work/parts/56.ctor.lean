/-! the constructors of both objects: the references are put one by one -/
def l00 : List (List (Option Nat)) := [[none, none, none, none, none, none, none, none, none, none, none], [none], [], [none, none], [none, none, none, none], [], [], [], [], [], [none, none], [], [], [none, none], [], [], [none, none, none, none], [], [], [], [none], [], [none, none], []]
def puts : List (Nat × Nat × Nat) := [(1, 0, 2), (0, 0, 1), (4, 0, 5), (4, 1, 6), (4, 2, 7), (4, 3, 8), (3, 0, 4), (0, 1, 3), (0, 2, 9), (10, 0, 11), (0, 4, 10), (0, 5, 12), (13, 0, 14), (13, 1, 15), (0, 7, 13), (16, 0, 17), (16, 1, 18), (16, 2, 19), (0, 8, 16), (20, 0, 21), (0, 9, 20), (22, 0, 23), (0, 10, 22)]
def lP (l : List (List (Option Nat))) (q : Nat × Nat × Nat) : List (List (Option Nat)) := l.set q.1 ((l.getD q.1 []).set q.2.1 (some q.2.2))
def lS (k : Nat) : List (List (Option Nat)) := (puts.take k).foldl lP l00
def PLl (l : List (List (Option Nat))) (i j : Nat) : Option Nat := (l.getD i []).getD j none
abbrev PK' (k : Nat) : Nat → Nat → Option Nat := PLl (lS k)
theorem PL_none {l : List (List (Option Nat))} {q : Nat} (h : (l.getD q []).all Option.isNone = true) : u2 (PLl l) q (fun _ => none) = PLl l := by
  funext i j
  by_cases e : i = q
  · subst e
    simp only [u2, if_true, PLl]
    generalize l.getD i [] = r at h
    rw [List.getD_eq_getElem?_getD]
    cases hj : r[j]? with
    | none => rfl
    | some o =>
      have := List.all_eq_true.mp h o (List.mem_of_getElem? hj)
      cases o with
      | none => rfl
      | some y => cases this
  · simp [u2, e]
theorem PL_put {l : List (List (Option Nat))} {q b x : Nat} (hq : q < l.length) (hb : b < (l.getD q []).length) : u2 (PLl l) q (va_up (PLl l q) b (some x)) = PLl (lP l (q, b, x)) := by
  funext i j
  unfold PLl lP
  by_cases e : i = q
  · subst e
    simp only [u2, if_true, va_up]
    rw [List.getD_eq_getElem?_getD (l := l.set i _), List.getElem?_set_self hq, Option.getD_some]
    by_cases ej : j = b
    · subst ej
      rw [if_pos rfl, List.getD_eq_getElem?_getD (l := List.set _ _ _), List.getElem?_set_self hb, Option.getD_some]
    · rw [if_neg ej, List.getD_eq_getElem?_getD (l := List.set _ _ _), List.getElem?_set_ne (Ne.symm ej), ← List.getD_eq_getElem?_getD]
  · simp only [u2, e, if_false]
    rw [List.getD_eq_getElem?_getD (l := l.set q _), List.getElem?_set_ne (Ne.symm e), ← List.getD_eq_getElem?_getD]
def pOK (k : Nat) : Bool := decide (lS (k + 1) = lP (lS k) (puts.getD k (0, 0, 0))) && (decide ((puts.getD k (0, 0, 0)).1 < (lS k).length) && decide ((puts.getD k (0, 0, 0)).2.1 < ((lS k).getD (puts.getD k (0, 0, 0)).1 []).length))
theorem pOK_all : (List.range 23).all pOK = true := by decide +kernel
theorem PK_put {k q b x : Nat} (hk : Nat.blt k 23 = true) (hp : puts.getD k (0, 0, 0) = (q, b, x)) : u2 (PK' k) q (va_up (PK' k q) b (some x)) = PK' (k + 1) := by
  have h := List.all_eq_true.mp pOK_all k (List.mem_range.mpr (Nat.le_of_ble_eq_true hk))
  unfold pOK at h
  rw [hp, Bool.and_eq_true, Bool.and_eq_true, decide_eq_true_eq, decide_eq_true_eq, decide_eq_true_eq] at h
  rw [PL_put h.2.1 h.2.2, ← h.1]
theorem PK_mna : u2 (PK' 2) 4 (fun j => if j < 4 then some (4 + 1 + j) else none) = PK' 6 := by
  have e2 : PLl (lS 2) 4 = fun _ => none := by
    have h := PL_none (l := lS 2) (q := 4) (by decide +kernel)
    rw [← h, u2_same]
  have h6 : ∀ i, i ≠ 4 → (lS 6).getD i [] = (lS 2).getD i [] := fun i hi => by
    have e : lS 6 = (lS 2).set 4 [some 5, some 6, some 7, some 8] := by decide +kernel
    rw [e, List.getD_eq_getElem?_getD, List.getElem?_set_ne (Ne.symm hi), ← List.getD_eq_getElem?_getD]
  have h4 : (lS 6).getD 4 [] = [some 5, some 6, some 7, some 8] := by decide +kernel
  funext i j
  by_cases e : i = 4
  · subst e
    rw [u2_same]
    show _ = ((lS 6).getD 4 []).getD j none
    rw [h4]
    match j with
    | 0 => rfl
    | 1 => rfl
    | 2 => rfl
    | 3 => rfl
    | j + 4 => rw [if_neg (by omega)]; rfl
  · rw [u2_ne e]
    show ((lS 2).getD i []).getD j none = ((lS 6).getD i []).getD j none
    rw [h6 i e]
def R0 (j : Nat) : Nat := 5 + j
theorem PK_end : PK' 23 = PF R0 := by
  have e : (List.range 24).all (fun i => Nat.beq i 4 || decide ((lS 23).getD i [] = PFl.getD i [] ++ List.replicate (((lS 23).getD i []).length - (PFl.getD i []).length) none)) = true := by decide +kernel
  have e4 : (lS 23).getD 4 [] = [some 5, some 6, some 7, some 8] := by decide +kernel
  funext i j
  unfold PF
  show ((lS 23).getD i []).getD j none = _
  by_cases h : i = 4
  · subst h
    rw [e4]
    match j with
    | 0 => rfl
    | 1 => rfl
    | 2 => rfl
    | 3 => rfl
    | j + 4 =>
      have : Nat.blt (j + 4) 4 = false := by
        cases z : Nat.blt (j + 4) 4 with
        | false => rfl
        | true => have := Nat.le_of_ble_eq_true z; omega
      rw [show Nat.beq 4 4 = true from rfl, cond_true, this, cond_false]
      rfl
  · have hb : Nat.beq i 4 = false := by
      cases z : Nat.beq i 4 with
      | false => rfl
      | true => exact absurd (Nat.eq_of_beq_eq_true z) h
    rw [hb, cond_false]
    by_cases h32 : i < 24
    · have h2 := List.all_eq_true.mp e i (List.mem_range.mpr h32)
      rw [hb, Bool.false_or, decide_eq_true_eq] at h2
      rw [h2]
      generalize ((lS 23).getD i []).length - (PFl.getD i []).length = y
      generalize PFl.getD i [] = r
      rw [List.getD_eq_getElem?_getD, List.getD_eq_getElem?_getD]
      by_cases hj : j < r.length
      · rw [List.getElem?_append_left hj]
      · rw [List.getElem?_append_right (by omega), List.getElem?_replicate, List.getElem?_eq_none (show r.length ≤ j by omega)]
        split <;> rfl
    · have a1 : (lS 23).length = 24 := by decide +kernel
      have a2 : PFl.length = 24 := by decide +kernel
      rw [List.getD_eq_getElem?_getD (l := lS 23), List.getElem?_eq_none (by omega), List.getD_eq_getElem?_getD (l := PFl), List.getElem?_eq_none (by omega)]
theorem PK_0 : PK' 0 = fun _ _ => none := by
  have h : (lS 0).all (fun r => r.all Option.isNone) = true := by decide +kernel
  funext i j
  show ((lS 0).getD i []).getD j none = none
  rw [List.getD_eq_getElem?_getD (l := lS 0)]
  cases hi : (lS 0)[i]? with
  | none => rfl
  | some r =>
    rw [Option.getD_some, List.getD_eq_getElem?_getD]
    cases hj : r[j]? with
    | none => rfl
    | some o =>
      have := List.all_eq_true.mp (List.all_eq_true.mp h r (List.mem_of_getElem? hi)) o (List.mem_of_getElem? hj)
      cases o with
      | none => rfl
      | some y => cases this
theorem z_u {S : Nat → Nat → Int32} {q : Nat} (h : S q = fun _ => 0) : u2 S q (fun _ => 0) = S := by
  rw [← h, u2_self]
section CTR
variable {L : Nat} {xs : Nat → Int32} {k n0 pc nx a b wp ix : Nat} {v : Int32} {ls : Lc} {st : List Value} {σE : St} {r : Option Value} {S : Nat → Nat → Int32}
theorem C_new {q c : Nat} (hc : ct k pc = (53, nx, a, b, wp, ix, v)) (hK : KT q = (3, a)) (hz : S q = fun _ => 0) (hl : ((lS c).getD q []).all Option.isNone = true) (hnE : Nat.ble (q + 1) σE.2.2 = true) (kk : G L xs k n0 nx ls (.ref q :: st) (S, PK' c, q + 1) r σE) : G L xs k n0 pc ls st (S, PK' c, q) r σE := by
  refine G_new (σ := (S, PK' c, q)) hc rfl hK hnE ?_
  rw [z_u hz, PL_none hl]
  exact kk
theorem C_newa {x : Int32} {q n c : Nat} (hc : ct k pc = (54, nx, a, b, wp, ix, v)) (e : x = nI n) (hK : KT q = (a, n)) (hz : S q = fun _ => 0) (hl : ((lS c).getD q []).all Option.isNone = true) (hnE : Nat.ble (q + 1) σE.2.2 = true) (kk : G L xs k n0 nx ls (.ref q :: st) (S, PK' c, q + 1) r σE) : G L xs k n0 pc ls (.int x :: st) (S, PK' c, q) r σE := by
  refine G_newarray (σ := (S, PK' c, q)) hc rfl e hK hnE ?_
  rw [z_u hz, PL_none hl]
  exact kk
theorem C_put {i x c n : Nat} (hc : ct k pc = (45, nx, a, b, wp, ix, v)) (hi : Nat.blt i n = true) (hK : KT i = (3, a)) (hx : Nat.blt x 1000 = true) (hk : Nat.blt c 23 = true) (hp : puts.getD c (0, 0, 0) = (i, b, x)) (kk : G L xs k n0 nx ls st (S, PK' (c + 1), n) r σE) : G L xs k n0 pc ls (.ref x :: .ref i :: st) (S, PK' c, n) r σE := by
  refine G_putF (σ := (S, PK' c, n)) hc hi hK hx ?_
  rw [PK_put hk hp]
  exact kk
theorem C_mna {x y : Int32} (hc : ct k pc = (55, nx, a, b, wp, ix, v)) (ex : x = nI 4) (ey : y = nI 101) (hz : ∀ i, 4 ≤ i → S i = fun _ => 0) (hnE : Nat.ble 9 σE.2.2 = true) (kk : G L xs k n0 nx ls (.ref 4 :: st) (S, PK' 6, 9) r σE) : G L xs k n0 pc ls (.int y :: .int x :: st) (S, PK' 2, 4) r σE := by
  refine G_mna (σ := (S, PK' 2, 4)) (q := 4) hc rfl ex ey rfl (fun j hj => KT_R ⟨by omega, by omega⟩) hnE ?_
  rw [PK_mna]
  have : (fun i => if i < 4 then S i else fun _ => 0) = S := by
    funext i
    by_cases h : i < 4
    · rw [if_pos h]
    · rw [if_neg h, hz i (by omega)]
  rw [this]
  exact kk
end CTR
def tI : Nat → Int32 := fun j => if j < 96 then NONE else 0
set_option maxRecDepth 100000 in
theorem ci_Table1 {S : Nat → Nat → Int32} (hz : S 2 = fun _ => 0) : EvM kTable_init [.ref 1] (S, PK' 0, 2) none (u2 S 2 tI, PK' 1, 3) := by
  refine EvM_of (ls := [some (.ref 1), none]) rfl rfl rfl rfl rfl rfl trivial ?_
  refine G_aload_n rfl rfl ?_
  refine G_objinit rfl rfl rfl ?_
  refine G_aload_n rfl rfl ?_
  refine G_bipush rfl ?_
  refine C_newa (q := 2) (c := 0) rfl rfl rfl hz (by decide +kernel) rfl ?_
  refine C_put (c := 0) rfl rfl rfl rfl rfl rfl ?_
  refine G_iconst rfl ?_
  refine G_istore_n rfl rfl ?_
  have goal := down 96 (fun i => G 0 (fun _ => 0) kTable_init 2 14 [some (.ref 1), some (.int (nI i))] [] (u2 S 2 (fun j => if j < i then NONE else 0), PK' 1, 3) none (u2 S 2 tI, PK' 1, 3)) ?_ (fun i hi ih => ?_)
  · rw [show (fun j => if j < 0 then NONE else 0) = S 2 from by rw [hz]; funext j; rw [if_neg (Nat.not_lt_zero j)], u2_self] at goal
    exact goal
  · refine G_iload_n rfl rfl ?_
    refine G_bipush rfl ?_
    refine G_icmp_ge rfl (fun h => ?_) (fun h => ?_)
    · exact G_ret rfl rfl rfl rfl
    · exact absurd (by decide) h
  · refine G_iload_n rfl rfl ?_
    refine G_bipush rfl ?_
    refine G_icmp_ge rfl (fun h => ?_) (fun h => ?_)
    · exact absurd h (ge_no hi (by decide))
    refine G_aload_n rfl rfl ?_
    refine H_getR (q := 2) rfl rfl rfl rfl (by decide +kernel) rfl ?_
    refine G_iload_n rfl rfl ?_
    refine G_ldc rfl ?_
    refine H_iast (j := i) rfl rfl (m := 101) rfl (by omega) rfl ?_
    refine G_iinc rfl rfl rfl ?_
    refine G_goto rfl ?_
    rw [u2_u2, u2_same, show upd (fun j => if j < i then NONE else 0) i 1000000 = (fun j => if j < i + 1 then NONE else 0) from by
      funext j
      by_cases e : j = i
      · subst e; rw [upd_same, if_pos (Nat.lt_succ_self _)]; rfl
      · rw [upd_ne e]
        by_cases e2 : j < i
        · rw [if_pos e2, if_pos (by omega)]
        · rw [if_neg e2, if_neg (by omega)]]
    rw [nI_succ] at ih
    exact ih
set_option maxRecDepth 100000 in
theorem ci_Table20 {S : Nat → Nat → Int32} (hz : S 21 = fun _ => 0) : EvM kTable_init [.ref 20] (S, PK' 19, 21) none (u2 S 21 tI, PK' 20, 22) := by
  refine EvM_of (ls := [some (.ref 20), none]) rfl rfl rfl rfl rfl rfl trivial ?_
  refine G_aload_n rfl rfl ?_
  refine G_objinit rfl rfl rfl ?_
  refine G_aload_n rfl rfl ?_
  refine G_bipush rfl ?_
  refine C_newa (q := 21) (c := 19) rfl rfl rfl hz (by decide +kernel) rfl ?_
  refine C_put (c := 19) rfl rfl rfl rfl rfl rfl ?_
  refine G_iconst rfl ?_
  refine G_istore_n rfl rfl ?_
  have goal := down 96 (fun i => G 0 (fun _ => 0) kTable_init 21 14 [some (.ref 20), some (.int (nI i))] [] (u2 S 21 (fun j => if j < i then NONE else 0), PK' 20, 22) none (u2 S 21 tI, PK' 20, 22)) ?_ (fun i hi ih => ?_)
  · rw [show (fun j => if j < 0 then NONE else 0) = S 21 from by rw [hz]; funext j; rw [if_neg (Nat.not_lt_zero j)], u2_self] at goal
    exact goal
  · refine G_iload_n rfl rfl ?_
    refine G_bipush rfl ?_
    refine G_icmp_ge rfl (fun h => ?_) (fun h => ?_)
    · exact G_ret rfl rfl rfl rfl
    · exact absurd (by decide) h
  · refine G_iload_n rfl rfl ?_
    refine G_bipush rfl ?_
    refine G_icmp_ge rfl (fun h => ?_) (fun h => ?_)
    · exact absurd h (ge_no hi (by decide))
    refine G_aload_n rfl rfl ?_
    refine H_getR (q := 21) rfl rfl rfl rfl (by decide +kernel) rfl ?_
    refine G_iload_n rfl rfl ?_
    refine G_ldc rfl ?_
    refine H_iast (j := i) rfl rfl (m := 101) rfl (by omega) rfl ?_
    refine G_iinc rfl rfl rfl ?_
    refine G_goto rfl ?_
    rw [u2_u2, u2_same, show upd (fun j => if j < i then NONE else 0) i 1000000 = (fun j => if j < i + 1 then NONE else 0) from by
      funext j
      by_cases e : j = i
      · subst e; rw [upd_same, if_pos (Nat.lt_succ_self _)]; rfl
      · rw [upd_ne e]
        by_cases e2 : j < i
        · rw [if_pos e2, if_pos (by omega)]
        · rw [if_neg e2, if_neg (by omega)]]
    rw [nI_succ] at ih
    exact ih
set_option maxRecDepth 100000 in
theorem ci_History {S : Nat → Nat → Int32} (hz : ∀ i, 4 ≤ i → S i = fun _ => 0) : EvM kHistory_init [.ref 3] (S, PK' 2, 4) none (S, PK' 7, 9) := by
  refine EvM_of (ls := [some (.ref 3)]) rfl rfl rfl rfl rfl rfl trivial ?_
  refine G_aload_n rfl rfl ?_
  refine G_objinit rfl rfl rfl ?_
  refine G_aload_n rfl rfl ?_
  refine G_iconst rfl ?_
  refine G_bipush rfl ?_
  refine C_mna rfl rfl rfl hz rfl ?_
  refine C_put (c := 6) rfl rfl rfl rfl rfl rfl ?_
  exact G_ret rfl rfl rfl rfl
set_option maxRecDepth 100000 in
theorem ci_Text10 {S : Nat → Nat → Int32} (hz : S 11 = fun _ => 0) : EvM kText_init [.ref 10, .int 60] (S, PK' 9, 11) none (S, PK' 10, 12) := by
  refine EvM_of (ls := [some (.ref 10), some (.int 60)]) rfl rfl rfl rfl rfl rfl trivial ?_
  refine G_aload_n rfl rfl ?_
  refine G_objinit rfl rfl rfl ?_
  refine G_aload_n rfl rfl ?_
  refine G_iload_n rfl rfl ?_
  refine G_if_le rfl (fun h => absurd h (by decide)) (fun h => ?_)
  refine G_iload_n rfl rfl ?_
  refine G_goto rfl ?_
  refine C_newa (q := 11) (c := 9) rfl rfl rfl hz (by decide +kernel) rfl ?_
  refine C_put (c := 9) rfl rfl rfl rfl rfl rfl ?_
  exact G_ret rfl rfl rfl rfl
set_option maxRecDepth 100000 in
theorem ci_Text22 {S : Nat → Nat → Int32} (hz : S 23 = fun _ => 0) : EvM kText_init [.ref 22, .int 96] (S, PK' 21, 23) none (S, PK' 22, 24) := by
  refine EvM_of (ls := [some (.ref 22), some (.int 96)]) rfl rfl rfl rfl rfl rfl trivial ?_
  refine G_aload_n rfl rfl ?_
  refine G_objinit rfl rfl rfl ?_
  refine G_aload_n rfl rfl ?_
  refine G_iload_n rfl rfl ?_
  refine G_if_le rfl (fun h => absurd h (by decide)) (fun h => ?_)
  refine G_iload_n rfl rfl ?_
  refine G_goto rfl ?_
  refine C_newa (q := 23) (c := 21) rfl rfl rfl hz (by decide +kernel) rfl ?_
  refine C_put (c := 21) rfl rfl rfl rfl rfl rfl ?_
  exact G_ret rfl rfl rfl rfl
set_option maxRecDepth 100000 in
theorem ci_Groups {S : Nat → Nat → Int32} (hz : ∀ i, 14 ≤ i → S i = fun _ => 0) : EvM kGroups_init [.ref 13] (S, PK' 12, 14) none (S, PK' 14, 16) := by
  refine EvM_of (ls := [some (.ref 13)]) rfl rfl rfl rfl rfl rfl trivial ?_
  refine G_aload_n rfl rfl ?_
  refine G_objinit rfl rfl rfl ?_
  refine G_aload_n rfl rfl ?_
  refine G_bipush rfl ?_
  refine C_newa (q := 14) (c := 12) rfl rfl rfl (hz 14 (by decide)) (by decide +kernel) rfl ?_
  refine C_put (c := 12) rfl rfl rfl rfl rfl rfl ?_
  refine G_aload_n rfl rfl ?_
  refine G_bipush rfl ?_
  refine C_newa (q := 15) (c := 13) rfl rfl rfl (hz 15 (by decide)) (by decide +kernel) rfl ?_
  refine C_put (c := 13) rfl rfl rfl rfl rfl rfl ?_
  exact G_ret rfl rfl rfl rfl
set_option maxRecDepth 100000 in
theorem ci_Walk {S : Nat → Nat → Int32} (hz : ∀ i, 17 ≤ i → S i = fun _ => 0) : EvM kWalk_init [.ref 16] (S, PK' 15, 17) none (S, PK' 18, 20) := by
  refine EvM_of (ls := [some (.ref 16)]) rfl rfl rfl rfl rfl rfl trivial ?_
  refine G_aload_n rfl rfl ?_
  refine G_objinit rfl rfl rfl ?_
  refine G_aload_n rfl rfl ?_
  refine G_bipush rfl ?_
  refine C_newa (q := 17) (c := 15) rfl rfl rfl (hz 17 (by decide)) (by decide +kernel) rfl ?_
  refine C_put (c := 15) rfl rfl rfl rfl rfl rfl ?_
  refine G_aload_n rfl rfl ?_
  refine G_bipush rfl ?_
  refine C_newa (q := 18) (c := 16) rfl rfl rfl (hz 18 (by decide)) (by decide +kernel) rfl ?_
  refine C_put (c := 16) rfl rfl rfl rfl rfl rfl ?_
  refine G_aload_n rfl rfl ?_
  refine G_bipush rfl ?_
  refine C_newa (q := 19) (c := 17) rfl rfl rfl (hz 19 (by decide)) (by decide +kernel) rfl ?_
  refine C_put (c := 17) rfl rfl rfl rfl rfl rfl ?_
  exact G_ret rfl rfl rfl rfl
theorem zA_0 {S : Nat → Nat → Int32} (hz : ∀ i, 1 ≤ i → S i = fun _ => 0) : ∀ i, 1 ≤ i → i ≠ 2 → u2 S 2 tI i = fun _ => 0 := fun i h1 h2 => by rw [u2_ne h2]; exact hz i h1
theorem zB_0 {S : Nat → Nat → Int32} (hz : ∀ i, 1 ≤ i → S i = fun _ => 0) : ∀ i, 1 ≤ i → i ≠ 2 → i ≠ 21 → u2 (u2 S 2 tI) 21 tI i = fun _ => 0 := fun i h1 h2 h3 => by rw [u2_ne h3, u2_ne h2]; exact hz i h1
set_option maxRecDepth 100000 in
theorem ci_X {S : Nat → Nat → Int32} (hz : ∀ i, 1 ≤ i → S i = fun _ => 0) : EvM kX_init [.ref 0] (S, PK' 0, 1) none (u2 (u2 S 2 tI) 21 tI, PK' 23, 24) := by
  have hA := zA_0 hz
  have hB := zB_0 hz
  refine EvM_of (ls := [some (.ref 0)]) rfl rfl rfl rfl rfl rfl trivial ?_
  refine G_aload_n rfl rfl ?_
  refine G_objinit rfl rfl rfl ?_
  refine G_aload_n rfl rfl ?_
  refine C_new (q := 1) (c := 0) rfl rfl (hz 1 (by decide)) (by decide +kernel) rfl ?_
  refine G_dup rfl rfl ?_
  refine G_callI (a := 0) (ci_Table1 (hz 2 (by decide))) rfl rfl rfl rfl rfl rfl ?_
  refine C_put (c := 1) rfl rfl rfl rfl rfl rfl ?_
  refine G_aload_n rfl rfl ?_
  refine C_new (q := 3) (c := 2) rfl rfl (hA 3 (by decide) (by decide)) (by decide +kernel) rfl ?_
  refine G_dup rfl rfl ?_
  refine G_callIN (a := 0) (ci_History (fun i hi => hA i (by omega) (by omega))) rfl rfl rfl rfl rfl rfl ?_
  refine C_put (c := 7) rfl rfl rfl rfl rfl rfl ?_
  refine G_aload_n rfl rfl ?_
  refine G_bipush rfl ?_
  refine C_newa (q := 9) (c := 8) rfl rfl rfl (hA 9 (by decide) (by decide)) (by decide +kernel) rfl ?_
  refine C_put (c := 8) rfl rfl rfl rfl rfl rfl ?_
  refine G_aload_n rfl rfl ?_
  refine C_new (q := 10) (c := 9) rfl rfl (hA 10 (by decide) (by decide)) (by decide +kernel) rfl ?_
  refine G_dup rfl rfl ?_
  refine G_bipush rfl ?_
  refine G_callI (a := 0) (ci_Text10 (hA 11 (by decide) (by decide))) rfl rfl rfl rfl rfl rfl ?_
  refine C_put (c := 10) rfl rfl rfl rfl rfl rfl ?_
  refine G_aload_n rfl rfl ?_
  refine G_iconst rfl ?_
  refine C_newa (q := 12) (c := 11) rfl rfl rfl (hA 12 (by decide) (by decide)) (by decide +kernel) rfl ?_
  refine C_put (c := 11) rfl rfl rfl rfl rfl rfl ?_
  refine G_aload_n rfl rfl ?_
  refine C_new (q := 13) (c := 12) rfl rfl (hA 13 (by decide) (by decide)) (by decide +kernel) rfl ?_
  refine G_dup rfl rfl ?_
  refine G_callIN (a := 0) (ci_Groups (fun i hi => hA i (by omega) (by omega))) rfl rfl rfl rfl rfl rfl ?_
  refine C_put (c := 14) rfl rfl rfl rfl rfl rfl ?_
  refine G_aload_n rfl rfl ?_
  refine C_new (q := 16) (c := 15) rfl rfl (hA 16 (by decide) (by decide)) (by decide +kernel) rfl ?_
  refine G_dup rfl rfl ?_
  refine G_callIN (a := 0) (ci_Walk (fun i hi => hA i (by omega) (by omega))) rfl rfl rfl rfl rfl rfl ?_
  refine C_put (c := 18) rfl rfl rfl rfl rfl rfl ?_
  refine G_aload_n rfl rfl ?_
  refine C_new (q := 20) (c := 19) rfl rfl (hA 20 (by decide) (by decide)) (by decide +kernel) rfl ?_
  refine G_dup rfl rfl ?_
  refine G_callI (a := 0) (ci_Table20 (hA 21 (by decide) (by decide))) rfl rfl rfl rfl rfl rfl ?_
  refine C_put (c := 20) rfl rfl rfl rfl rfl rfl ?_
  refine G_aload_n rfl rfl ?_
  refine C_new (q := 22) (c := 21) rfl rfl (hB 22 (by decide) (by decide) (by decide)) (by decide +kernel) rfl ?_
  refine G_dup rfl rfl ?_
  refine G_bipush rfl ?_
  refine G_callI (a := 0) (ci_Text22 (hB 23 (by decide) (by decide) (by decide))) rfl rfl rfl rfl rfl rfl ?_
  refine C_put (c := 22) rfl rfl rfl rfl rfl rfl ?_
  exact G_ret rfl rfl rfl rfl
