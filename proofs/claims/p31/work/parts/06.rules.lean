theorem f4_eq {a : Nat} (h : Nat.blt a 4 = true) : ((f4 a : Fin 4) : Nat) = a := by
  have h1 : a < 4 := Nat.le_of_ble_eq_true h
  match a, h1 with
  | 0, _ => rfl
  | 1, _ => rfl
  | 2, _ => rfl
  | 3, _ => rfl
theorem G_iconst {L : Nat} {xs : Nat → Int32} {k n0 pc nx a b wp ix : Nat} {v : Int32} {ls : Lc} {st : List Value} {σ σE : St} {r : Option Value}  (hc : ct k pc = (0, nx, a, b, wp, ix, v)) (kk : G L xs k n0 nx ls (.int v :: st) σ r σE) : G L xs k n0 pc ls (st) σ r σE := by
  intro l dC dI cI cZ cII base b0 p en R s m args below meth c H locs Q mls mc lv hH hP hS hn hc1 hc2 hret
  obtain ⟨hx, hb, hml, hown, hts, hpk, hini, hfr, hlo, hbs, hX⟩ := mc
  obtain ⟨hd, hnx, hsd, hk⟩ := ct_ok hc rfl
  have hd : decode (mb k) pc = .ok (.iconst v.toInt, 1) := hd
  have e : nx = pc + 1 := Nat.eq_of_beq_eq_true hnx
  subst e
  exact lv_iconst hx hb hd (Int32.ofInt_toInt v) (kk l dC dI cI cZ cII base b0 p en R s m args below meth c H locs Q mls ⟨hx, hb, hml, hown, hts, hpk, hini, hfr, hlo, hbs, hX⟩ lv hH hP hS hn hc1 hc2 hret)
theorem G_bipush {L : Nat} {xs : Nat → Int32} {k n0 pc nx a b wp ix : Nat} {v : Int32} {ls : Lc} {st : List Value} {σ σE : St} {r : Option Value}  (hc : ct k pc = (1, nx, a, b, wp, ix, v)) (kk : G L xs k n0 nx ls (.int v :: st) σ r σE) : G L xs k n0 pc ls (st) σ r σE := by
  intro l dC dI cI cZ cII base b0 p en R s m args below meth c H locs Q mls mc lv hH hP hS hn hc1 hc2 hret
  obtain ⟨hx, hb, hml, hown, hts, hpk, hini, hfr, hlo, hbs, hX⟩ := mc
  obtain ⟨hd, hnx, hsd, hk⟩ := ct_ok hc rfl
  have hd : decode (mb k) pc = .ok (.bipush v.toInt, 2) := hd
  have e : nx = pc + 2 := Nat.eq_of_beq_eq_true hnx
  subst e
  exact lv_bipush hx hb hd (of_decide_eq_true hsd) (kk l dC dI cI cZ cII base b0 p en R s m args below meth c H locs Q mls ⟨hx, hb, hml, hown, hts, hpk, hini, hfr, hlo, hbs, hX⟩ lv hH hP hS hn hc1 hc2 hret)
theorem G_sipush {L : Nat} {xs : Nat → Int32} {k n0 pc nx a b wp ix : Nat} {v : Int32} {ls : Lc} {st : List Value} {σ σE : St} {r : Option Value}  (hc : ct k pc = (2, nx, a, b, wp, ix, v)) (kk : G L xs k n0 nx ls (.int v :: st) σ r σE) : G L xs k n0 pc ls (st) σ r σE := by
  intro l dC dI cI cZ cII base b0 p en R s m args below meth c H locs Q mls mc lv hH hP hS hn hc1 hc2 hret
  obtain ⟨hx, hb, hml, hown, hts, hpk, hini, hfr, hlo, hbs, hX⟩ := mc
  obtain ⟨hd, hnx, hsd, hk⟩ := ct_ok hc rfl
  have hd : decode (mb k) pc = .ok (.sipush v.toInt, 3) := hd
  have e : nx = pc + 3 := Nat.eq_of_beq_eq_true hnx
  subst e
  exact lv_sipush hx hb hd (of_decide_eq_true hsd) (kk l dC dI cI cZ cII base b0 p en R s m args below meth c H locs Q mls ⟨hx, hb, hml, hown, hts, hpk, hini, hfr, hlo, hbs, hX⟩ lv hH hP hS hn hc1 hc2 hret)
theorem G_ldc {L : Nat} {xs : Nat → Int32} {k n0 pc nx a b wp ix : Nat} {v : Int32} {ls : Lc} {st : List Value} {σ σE : St} {r : Option Value}  (hc : ct k pc = (3, nx, a, b, wp, ix, v)) (kk : G L xs k n0 nx ls (.int v :: st) σ r σE) : G L xs k n0 pc ls (st) σ r σE := by
  intro l dC dI cI cZ cII base b0 p en R s m args below meth c H locs Q mls mc lv hH hP hS hn hc1 hc2 hret
  obtain ⟨hx, hb, hml, hown, hts, hpk, hini, hfr, hlo, hbs, hX⟩ := mc
  obtain ⟨hd, hnx, hsd, hk⟩ := ct_ok hc rfl
  have hd : decode (mb k) pc = .ok (.ldc ix, 2) := hd
  have e : nx = pc + 2 := Nat.eq_of_beq_eq_true hnx
  subst e
  exact lv_ldc hx hb hown (hts _ (memW_ok hsd)) hd (kk l dC dI cI cZ cII base b0 p en R s m args below meth c H locs Q mls ⟨hx, hb, hml, hown, hts, hpk, hini, hfr, hlo, hbs, hX⟩ lv hH hP hS hn hc1 hc2 hret)
theorem G_iload_n {L : Nat} {xs : Nat → Int32} {k n0 pc nx a b wp ix : Nat} {v : Int32} {ls : Lc} {st : List Value} {σ σE : St} {r : Option Value} {x : Int32} (hc : ct k pc = (4, nx, a, b, wp, ix, v)) (hl : ls[a]? = some (some (.int x))) (kk : G L xs k n0 nx ls (.int x :: st) σ r σE) : G L xs k n0 pc ls (st) σ r σE := by
  intro l dC dI cI cZ cII base b0 p en R s m args below meth c H locs Q mls mc lv hH hP hS hn hc1 hc2 hret
  obtain ⟨hx, hb, hml, hown, hts, hpk, hini, hfr, hlo, hbs, hX⟩ := mc
  obtain ⟨hd, hnx, hsd, hk⟩ := ct_ok hc rfl
  have hd : decode (mb k) pc = .ok (.iload_n (f4 a), 1) := hd
  have e : nx = pc + 1 := Nat.eq_of_beq_eq_true hnx
  subst e
  have hsd : (Nat.blt a (mL k) && Nat.blt a 4) = true := hsd
  rw [Bool.and_eq_true] at hsd
  exact lv_iload_n hx hb hd (f4_eq hsd.2) (lv.2.2 a _ hl) (kk l dC dI cI cZ cII base b0 p en R s m args below meth c H locs Q mls ⟨hx, hb, hml, hown, hts, hpk, hini, hfr, hlo, hbs, hX⟩ lv hH hP hS hn hc1 hc2 hret)
theorem G_iload {L : Nat} {xs : Nat → Int32} {k n0 pc nx a b wp ix : Nat} {v : Int32} {ls : Lc} {st : List Value} {σ σE : St} {r : Option Value} {x : Int32} (hc : ct k pc = (5, nx, a, b, wp, ix, v)) (hl : ls[a]? = some (some (.int x))) (kk : G L xs k n0 nx ls (.int x :: st) σ r σE) : G L xs k n0 pc ls (st) σ r σE := by
  intro l dC dI cI cZ cII base b0 p en R s m args below meth c H locs Q mls mc lv hH hP hS hn hc1 hc2 hret
  obtain ⟨hx, hb, hml, hown, hts, hpk, hini, hfr, hlo, hbs, hX⟩ := mc
  obtain ⟨hd, hnx, hsd, hk⟩ := ct_ok hc rfl
  have hd : decode (mb k) pc = .ok (.iload a, 2) := hd
  have e : nx = pc + 2 := Nat.eq_of_beq_eq_true hnx
  subst e
  exact lv_iload hx hb hd (lv.2.2 a _ hl) (kk l dC dI cI cZ cII base b0 p en R s m args below meth c H locs Q mls ⟨hx, hb, hml, hown, hts, hpk, hini, hfr, hlo, hbs, hX⟩ lv hH hP hS hn hc1 hc2 hret)
theorem G_aload_n {L : Nat} {xs : Nat → Int32} {k n0 pc nx a b wp ix : Nat} {v : Int32} {ls : Lc} {st : List Value} {σ σE : St} {r : Option Value} {x : Nat} (hc : ct k pc = (6, nx, a, b, wp, ix, v)) (hl : ls[a]? = some (some (.ref x))) (kk : G L xs k n0 nx ls (.ref x :: st) σ r σE) : G L xs k n0 pc ls (st) σ r σE := by
  intro l dC dI cI cZ cII base b0 p en R s m args below meth c H locs Q mls mc lv hH hP hS hn hc1 hc2 hret
  obtain ⟨hx, hb, hml, hown, hts, hpk, hini, hfr, hlo, hbs, hX⟩ := mc
  obtain ⟨hd, hnx, hsd, hk⟩ := ct_ok hc rfl
  have hd : decode (mb k) pc = .ok (.aload_n (f4 a), 1) := hd
  have e : nx = pc + 1 := Nat.eq_of_beq_eq_true hnx
  subst e
  have hsd : (Nat.blt a (mL k) && Nat.blt a 4) = true := hsd
  rw [Bool.and_eq_true] at hsd
  exact lv_aload_n hx hb hd (f4_eq hsd.2) (lv.2.2 a _ hl) (kk l dC dI cI cZ cII base b0 p en R s m args below meth c H locs Q mls ⟨hx, hb, hml, hown, hts, hpk, hini, hfr, hlo, hbs, hX⟩ lv hH hP hS hn hc1 hc2 hret)
theorem G_aload {L : Nat} {xs : Nat → Int32} {k n0 pc nx a b wp ix : Nat} {v : Int32} {ls : Lc} {st : List Value} {σ σE : St} {r : Option Value} {x : Nat} (hc : ct k pc = (7, nx, a, b, wp, ix, v)) (hl : ls[a]? = some (some (.ref x))) (kk : G L xs k n0 nx ls (.ref x :: st) σ r σE) : G L xs k n0 pc ls (st) σ r σE := by
  intro l dC dI cI cZ cII base b0 p en R s m args below meth c H locs Q mls mc lv hH hP hS hn hc1 hc2 hret
  obtain ⟨hx, hb, hml, hown, hts, hpk, hini, hfr, hlo, hbs, hX⟩ := mc
  obtain ⟨hd, hnx, hsd, hk⟩ := ct_ok hc rfl
  have hd : decode (mb k) pc = .ok (.aload a, 2) := hd
  have e : nx = pc + 2 := Nat.eq_of_beq_eq_true hnx
  subst e
  exact lv_aload hx hb hd (lv.2.2 a _ hl) (kk l dC dI cI cZ cII base b0 p en R s m args below meth c H locs Q mls ⟨hx, hb, hml, hown, hts, hpk, hini, hfr, hlo, hbs, hX⟩ lv hH hP hS hn hc1 hc2 hret)
theorem G_dload {L : Nat} {xs : Nat → Int32} {k n0 pc nx a b wp ix : Nat} {v : Int32} {ls : Lc} {st : List Value} {σ σE : St} {r : Option Value} {x : UInt64} (hc : ct k pc = (8, nx, a, b, wp, ix, v)) (hl : ls[a]? = some (some (.double x))) (kk : G L xs k n0 nx ls (.double x :: st) σ r σE) : G L xs k n0 pc ls (st) σ r σE := by
  intro l dC dI cI cZ cII base b0 p en R s m args below meth c H locs Q mls mc lv hH hP hS hn hc1 hc2 hret
  obtain ⟨hx, hb, hml, hown, hts, hpk, hini, hfr, hlo, hbs, hX⟩ := mc
  obtain ⟨hd, hnx, hsd, hk⟩ := ct_ok hc rfl
  have hd : decode (mb k) pc = .ok (.dload a, 2) := hd
  have e : nx = pc + 2 := Nat.eq_of_beq_eq_true hnx
  subst e
  exact lv_dload hx hb hd (lv.2.2 a _ hl) (kk l dC dI cI cZ cII base b0 p en R s m args below meth c H locs Q mls ⟨hx, hb, hml, hown, hts, hpk, hini, hfr, hlo, hbs, hX⟩ lv hH hP hS hn hc1 hc2 hret)
theorem G_istore_n {L : Nat} {xs : Nat → Int32} {k n0 pc nx a b wp ix : Nat} {v : Int32} {ls : Lc} {st : List Value} {σ σE : St} {r : Option Value} {x : Int32} (hc : ct k pc = (9, nx, a, b, wp, ix, v)) (hnd : ndb ls a = true) (kk : G L xs k n0 nx (ls.set a (some (.int x))) (st) σ r σE) : G L xs k n0 pc ls (.int x :: st) σ r σE := by
  intro l dC dI cI cZ cII base b0 p en R s m args below meth c H locs Q mls mc lv hH hP hS hn hc1 hc2 hret
  obtain ⟨hx, hb, hml, hown, hts, hpk, hini, hfr, hlo, hbs, hX⟩ := mc
  obtain ⟨hd, hnx, hsd, hk⟩ := ct_ok hc rfl
  have hd : decode (mb k) pc = .ok (.istore_n (f4 a), 1) := hd
  have e : nx = pc + 1 := Nat.eq_of_beq_eq_true hnx
  subst e
  have hsd : (Nat.blt a (mL k) && Nat.blt a 4) = true := hsd
  rw [Bool.and_eq_true] at hsd
  refine lv_istore_n hx hb hd (f4_eq hsd.2) lv.has (Nat.le_of_ble_eq_true hsd.1) rfl (fun mls' h' => ?_)
  exact kk l dC dI cI cZ cII base b0 p en R s m args below meth c H locs Q mls' ⟨hx, hb, hml, hown, hts, hpk, hini, hfr, hlo, hbs, hX⟩ (lvr.set1 (x := .int x) hnd h') hH hP hS hn hc1 hc2 hret
theorem G_istore {L : Nat} {xs : Nat → Int32} {k n0 pc nx a b wp ix : Nat} {v : Int32} {ls : Lc} {st : List Value} {σ σE : St} {r : Option Value} {x : Int32} (hc : ct k pc = (10, nx, a, b, wp, ix, v)) (hnd : ndb ls a = true) (kk : G L xs k n0 nx (ls.set a (some (.int x))) (st) σ r σE) : G L xs k n0 pc ls (.int x :: st) σ r σE := by
  intro l dC dI cI cZ cII base b0 p en R s m args below meth c H locs Q mls mc lv hH hP hS hn hc1 hc2 hret
  obtain ⟨hx, hb, hml, hown, hts, hpk, hini, hfr, hlo, hbs, hX⟩ := mc
  obtain ⟨hd, hnx, hsd, hk⟩ := ct_ok hc rfl
  have hd : decode (mb k) pc = .ok (.istore a, 2) := hd
  have e : nx = pc + 2 := Nat.eq_of_beq_eq_true hnx
  subst e
  refine lv_istore hx hb hd lv.has (Nat.le_of_ble_eq_true hsd) rfl (fun mls' h' => ?_)
  exact kk l dC dI cI cZ cII base b0 p en R s m args below meth c H locs Q mls' ⟨hx, hb, hml, hown, hts, hpk, hini, hfr, hlo, hbs, hX⟩ (lvr.set1 (x := .int x) hnd h') hH hP hS hn hc1 hc2 hret
theorem G_astore_n {L : Nat} {xs : Nat → Int32} {k n0 pc nx a b wp ix : Nat} {v : Int32} {ls : Lc} {st : List Value} {σ σE : St} {r : Option Value} {x : Nat} (hc : ct k pc = (11, nx, a, b, wp, ix, v)) (hnd : ndb ls a = true) (kk : G L xs k n0 nx (ls.set a (some (.ref x))) (st) σ r σE) : G L xs k n0 pc ls (.ref x :: st) σ r σE := by
  intro l dC dI cI cZ cII base b0 p en R s m args below meth c H locs Q mls mc lv hH hP hS hn hc1 hc2 hret
  obtain ⟨hx, hb, hml, hown, hts, hpk, hini, hfr, hlo, hbs, hX⟩ := mc
  obtain ⟨hd, hnx, hsd, hk⟩ := ct_ok hc rfl
  have hd : decode (mb k) pc = .ok (.astore_n (f4 a), 1) := hd
  have e : nx = pc + 1 := Nat.eq_of_beq_eq_true hnx
  subst e
  have hsd : (Nat.blt a (mL k) && Nat.blt a 4) = true := hsd
  rw [Bool.and_eq_true] at hsd
  refine lv_astore_n hx hb hd (f4_eq hsd.2) lv.has (Nat.le_of_ble_eq_true hsd.1) rfl (fun mls' h' => ?_)
  exact kk l dC dI cI cZ cII base b0 p en R s m args below meth c H locs Q mls' ⟨hx, hb, hml, hown, hts, hpk, hini, hfr, hlo, hbs, hX⟩ (lvr.set1 (x := .ref x) hnd h') hH hP hS hn hc1 hc2 hret
theorem G_astore {L : Nat} {xs : Nat → Int32} {k n0 pc nx a b wp ix : Nat} {v : Int32} {ls : Lc} {st : List Value} {σ σE : St} {r : Option Value} {x : Nat} (hc : ct k pc = (12, nx, a, b, wp, ix, v)) (hnd : ndb ls a = true) (kk : G L xs k n0 nx (ls.set a (some (.ref x))) (st) σ r σE) : G L xs k n0 pc ls (.ref x :: st) σ r σE := by
  intro l dC dI cI cZ cII base b0 p en R s m args below meth c H locs Q mls mc lv hH hP hS hn hc1 hc2 hret
  obtain ⟨hx, hb, hml, hown, hts, hpk, hini, hfr, hlo, hbs, hX⟩ := mc
  obtain ⟨hd, hnx, hsd, hk⟩ := ct_ok hc rfl
  have hd : decode (mb k) pc = .ok (.astore a, 2) := hd
  have e : nx = pc + 2 := Nat.eq_of_beq_eq_true hnx
  subst e
  refine lv_astore hx hb hd lv.has (Nat.le_of_ble_eq_true hsd) rfl (fun mls' h' => ?_)
  exact kk l dC dI cI cZ cII base b0 p en R s m args below meth c H locs Q mls' ⟨hx, hb, hml, hown, hts, hpk, hini, hfr, hlo, hbs, hX⟩ (lvr.set1 (x := .ref x) hnd h') hH hP hS hn hc1 hc2 hret
theorem G_dstore {L : Nat} {xs : Nat → Int32} {k n0 pc nx a b wp ix : Nat} {v : Int32} {ls : Lc} {st : List Value} {σ σE : St} {r : Option Value} {x : UInt64} (hc : ct k pc = (13, nx, a, b, wp, ix, v)) (hnd : ndb ls a = true) (kk : G L xs k n0 nx ((ls.set a (some (.double x))).set (a + 1) none) (st) σ r σE) : G L xs k n0 pc ls (.double x :: st) σ r σE := by
  intro l dC dI cI cZ cII base b0 p en R s m args below meth c H locs Q mls mc lv hH hP hS hn hc1 hc2 hret
  obtain ⟨hx, hb, hml, hown, hts, hpk, hini, hfr, hlo, hbs, hX⟩ := mc
  obtain ⟨hd, hnx, hsd, hk⟩ := ct_ok hc rfl
  have hd : decode (mb k) pc = .ok (.dstore a, 2) := hd
  have e : nx = pc + 2 := Nat.eq_of_beq_eq_true hnx
  subst e
  refine lv_dstore hx hb hd lv.has (Nat.le_of_ble_eq_true hsd) rfl (fun mls' h' => ?_)
  exact kk l dC dI cI cZ cII base b0 p en R s m args below meth c H locs Q mls' ⟨hx, hb, hml, hown, hts, hpk, hini, hfr, hlo, hbs, hX⟩ (lvr.set2 (x := .double x) hnd h') hH hP hS hn hc1 hc2 hret
theorem G_iinc {L : Nat} {xs : Nat → Int32} {k n0 pc nx a b wp ix : Nat} {v : Int32} {ls : Lc} {st : List Value} {σ σE : St} {r : Option Value} {x : Int32} (hc : ct k pc = (14, nx, a, b, wp, ix, v)) (hl : ls[a]? = some (some (.int x))) (hnd : ndb ls a = true) (kk : G L xs k n0 nx (ls.set a (some (.int (x + v)))) (st) σ r σE) : G L xs k n0 pc ls (st) σ r σE := by
  intro l dC dI cI cZ cII base b0 p en R s m args below meth c H locs Q mls mc lv hH hP hS hn hc1 hc2 hret
  obtain ⟨hx, hb, hml, hown, hts, hpk, hini, hfr, hlo, hbs, hX⟩ := mc
  obtain ⟨hd, hnx, hsd, hk⟩ := ct_ok hc rfl
  have hd : decode (mb k) pc = .ok (.iinc a v.toInt, 3) := hd
  have e : nx = pc + 3 := Nat.eq_of_beq_eq_true hnx
  subst e
  obtain ⟨kq, hkq⟩ := List.getElem?_of_mem (vls_mem (base := base) (b := b0) (q := (a, .int x)).mpr ⟨_, hl, rfl⟩)
  refine lv_iinc hx hb hd lv.has hkq (by rw [Int32.ofInt_toInt]) (Nat.le_of_ble_eq_true hsd) rfl (fun mls' h' => ?_)
  exact kk l dC dI cI cZ cII base b0 p en R s m args below meth c H locs Q mls' ⟨hx, hb, hml, hown, hts, hpk, hini, hfr, hlo, hbs, hX⟩ (lvr.set1 (x := .int (x + v)) hnd h') hH hP hS hn hc1 hc2 hret
theorem G_iadd {L : Nat} {xs : Nat → Int32} {k n0 pc nx a b wp ix : Nat} {v : Int32} {ls : Lc} {st : List Value} {σ σE : St} {r : Option Value} {x y : Int32} (hc : ct k pc = (15, nx, a, b, wp, ix, v)) (kk : G L xs k n0 nx ls (.int (x + y) :: st) σ r σE) : G L xs k n0 pc ls (.int y :: .int x :: st) σ r σE := by
  intro l dC dI cI cZ cII base b0 p en R s m args below meth c H locs Q mls mc lv hH hP hS hn hc1 hc2 hret
  obtain ⟨hx, hb, hml, hown, hts, hpk, hini, hfr, hlo, hbs, hX⟩ := mc
  obtain ⟨hd, hnx, hsd, hk⟩ := ct_ok hc rfl
  have hd : decode (mb k) pc = .ok (.iadd, 1) := hd
  have e : nx = pc + 1 := Nat.eq_of_beq_eq_true hnx
  subst e
  exact lv_iadd hx hb hd (kk l dC dI cI cZ cII base b0 p en R s m args below meth c H locs Q mls ⟨hx, hb, hml, hown, hts, hpk, hini, hfr, hlo, hbs, hX⟩ lv hH hP hS hn hc1 hc2 hret)
theorem G_isub {L : Nat} {xs : Nat → Int32} {k n0 pc nx a b wp ix : Nat} {v : Int32} {ls : Lc} {st : List Value} {σ σE : St} {r : Option Value} {x y : Int32} (hc : ct k pc = (16, nx, a, b, wp, ix, v)) (kk : G L xs k n0 nx ls (.int (x - y) :: st) σ r σE) : G L xs k n0 pc ls (.int y :: .int x :: st) σ r σE := by
  intro l dC dI cI cZ cII base b0 p en R s m args below meth c H locs Q mls mc lv hH hP hS hn hc1 hc2 hret
  obtain ⟨hx, hb, hml, hown, hts, hpk, hini, hfr, hlo, hbs, hX⟩ := mc
  obtain ⟨hd, hnx, hsd, hk⟩ := ct_ok hc rfl
  have hd : decode (mb k) pc = .ok (.isub, 1) := hd
  have e : nx = pc + 1 := Nat.eq_of_beq_eq_true hnx
  subst e
  exact lv_isub hx hb hd (kk l dC dI cI cZ cII base b0 p en R s m args below meth c H locs Q mls ⟨hx, hb, hml, hown, hts, hpk, hini, hfr, hlo, hbs, hX⟩ lv hH hP hS hn hc1 hc2 hret)
theorem G_imul {L : Nat} {xs : Nat → Int32} {k n0 pc nx a b wp ix : Nat} {v : Int32} {ls : Lc} {st : List Value} {σ σE : St} {r : Option Value} {x y : Int32} (hc : ct k pc = (17, nx, a, b, wp, ix, v)) (kk : G L xs k n0 nx ls (.int (x * y) :: st) σ r σE) : G L xs k n0 pc ls (.int y :: .int x :: st) σ r σE := by
  intro l dC dI cI cZ cII base b0 p en R s m args below meth c H locs Q mls mc lv hH hP hS hn hc1 hc2 hret
  obtain ⟨hx, hb, hml, hown, hts, hpk, hini, hfr, hlo, hbs, hX⟩ := mc
  obtain ⟨hd, hnx, hsd, hk⟩ := ct_ok hc rfl
  have hd : decode (mb k) pc = .ok (.imul, 1) := hd
  have e : nx = pc + 1 := Nat.eq_of_beq_eq_true hnx
  subst e
  exact lv_imul hx hb hd (kk l dC dI cI cZ cII base b0 p en R s m args below meth c H locs Q mls ⟨hx, hb, hml, hown, hts, hpk, hini, hfr, hlo, hbs, hX⟩ lv hH hP hS hn hc1 hc2 hret)
theorem G_iand {L : Nat} {xs : Nat → Int32} {k n0 pc nx a b wp ix : Nat} {v : Int32} {ls : Lc} {st : List Value} {σ σE : St} {r : Option Value} {x y : Int32} (hc : ct k pc = (21, nx, a, b, wp, ix, v)) (kk : G L xs k n0 nx ls (.int (x &&& y) :: st) σ r σE) : G L xs k n0 pc ls (.int y :: .int x :: st) σ r σE := by
  intro l dC dI cI cZ cII base b0 p en R s m args below meth c H locs Q mls mc lv hH hP hS hn hc1 hc2 hret
  obtain ⟨hx, hb, hml, hown, hts, hpk, hini, hfr, hlo, hbs, hX⟩ := mc
  obtain ⟨hd, hnx, hsd, hk⟩ := ct_ok hc rfl
  have hd : decode (mb k) pc = .ok (.iand, 1) := hd
  have e : nx = pc + 1 := Nat.eq_of_beq_eq_true hnx
  subst e
  exact lv_iand hx hb hd (kk l dC dI cI cZ cII base b0 p en R s m args below meth c H locs Q mls ⟨hx, hb, hml, hown, hts, hpk, hini, hfr, hlo, hbs, hX⟩ lv hH hP hS hn hc1 hc2 hret)
theorem G_idiv {L : Nat} {xs : Nat → Int32} {k n0 pc nx a b wp ix : Nat} {v : Int32} {ls : Lc} {st : List Value} {σ σE : St} {r : Option Value} {x y : Int32} (hc : ct k pc = (18, nx, a, b, wp, ix, v)) (hy : ¬ y = 0) (kk : G L xs k n0 nx ls (.int (x / y) :: st) σ r σE) : G L xs k n0 pc ls (.int y :: .int x :: st) σ r σE := by
  intro l dC dI cI cZ cII base b0 p en R s m args below meth c H locs Q mls mc lv hH hP hS hn hc1 hc2 hret
  obtain ⟨hx, hb, hml, hown, hts, hpk, hini, hfr, hlo, hbs, hX⟩ := mc
  obtain ⟨hd, hnx, hsd, hk⟩ := ct_ok hc rfl
  have hd : decode (mb k) pc = .ok (.idiv, 1) := hd
  have e : nx = pc + 1 := Nat.eq_of_beq_eq_true hnx
  subst e
  exact lv_idiv hx hb hd hy (kk l dC dI cI cZ cII base b0 p en R s m args below meth c H locs Q mls ⟨hx, hb, hml, hown, hts, hpk, hini, hfr, hlo, hbs, hX⟩ lv hH hP hS hn hc1 hc2 hret)
theorem G_irem {L : Nat} {xs : Nat → Int32} {k n0 pc nx a b wp ix : Nat} {v : Int32} {ls : Lc} {st : List Value} {σ σE : St} {r : Option Value} {x y : Int32} (hc : ct k pc = (19, nx, a, b, wp, ix, v)) (hy : ¬ y = 0) (kk : G L xs k n0 nx ls (.int (x - x / y * y) :: st) σ r σE) : G L xs k n0 pc ls (.int y :: .int x :: st) σ r σE := by
  intro l dC dI cI cZ cII base b0 p en R s m args below meth c H locs Q mls mc lv hH hP hS hn hc1 hc2 hret
  obtain ⟨hx, hb, hml, hown, hts, hpk, hini, hfr, hlo, hbs, hX⟩ := mc
  obtain ⟨hd, hnx, hsd, hk⟩ := ct_ok hc rfl
  have hd : decode (mb k) pc = .ok (.irem, 1) := hd
  have e : nx = pc + 1 := Nat.eq_of_beq_eq_true hnx
  subst e
  exact lv_irem hx hb hd hy (kk l dC dI cI cZ cII base b0 p en R s m args below meth c H locs Q mls ⟨hx, hb, hml, hown, hts, hpk, hini, hfr, hlo, hbs, hX⟩ lv hH hP hS hn hc1 hc2 hret)
theorem G_ineg {L : Nat} {xs : Nat → Int32} {k n0 pc nx a b wp ix : Nat} {v : Int32} {ls : Lc} {st : List Value} {σ σE : St} {r : Option Value} {x : Int32} (hc : ct k pc = (20, nx, a, b, wp, ix, v)) (kk : G L xs k n0 nx ls (.int (-x) :: st) σ r σE) : G L xs k n0 pc ls (.int x :: st) σ r σE := by
  intro l dC dI cI cZ cII base b0 p en R s m args below meth c H locs Q mls mc lv hH hP hS hn hc1 hc2 hret
  obtain ⟨hx, hb, hml, hown, hts, hpk, hini, hfr, hlo, hbs, hX⟩ := mc
  obtain ⟨hd, hnx, hsd, hk⟩ := ct_ok hc rfl
  have hd : decode (mb k) pc = .ok (.ineg, 1) := hd
  have e : nx = pc + 1 := Nat.eq_of_beq_eq_true hnx
  subst e
  exact lv_ineg hx hb hd (kk l dC dI cI cZ cII base b0 p en R s m args below meth c H locs Q mls ⟨hx, hb, hml, hown, hts, hpk, hini, hfr, hlo, hbs, hX⟩ lv hH hP hS hn hc1 hc2 hret)
theorem G_i2l {L : Nat} {xs : Nat → Int32} {k n0 pc nx a b wp ix : Nat} {v : Int32} {ls : Lc} {st : List Value} {σ σE : St} {r : Option Value} {x : Int32} (hc : ct k pc = (66, nx, a, b, wp, ix, v)) (kk : G L xs k n0 nx ls (.long x.toInt64 :: st) σ r σE) : G L xs k n0 pc ls (.int x :: st) σ r σE := by
  intro l dC dI cI cZ cII base b0 p en R s m args below meth c H locs Q mls mc lv hH hP hS hn hc1 hc2 hret
  obtain ⟨hx, hb, hml, hown, hts, hpk, hini, hfr, hlo, hbs, hX⟩ := mc
  obtain ⟨hd, hnx, hsd, hk⟩ := ct_ok hc rfl
  have hd : decode (mb k) pc = .ok (.i2l, 1) := hd
  have e : nx = pc + 1 := Nat.eq_of_beq_eq_true hnx
  subst e
  exact lv_i2l hx hb hd rfl (kk l dC dI cI cZ cII base b0 p en R s m args below meth c H locs Q mls ⟨hx, hb, hml, hown, hts, hpk, hini, hfr, hlo, hbs, hX⟩ lv hH hP hS hn hc1 hc2 hret)
theorem G_lmul {L : Nat} {xs : Nat → Int32} {k n0 pc nx a b wp ix : Nat} {v : Int32} {ls : Lc} {st : List Value} {σ σE : St} {r : Option Value} {x y : Int64} (hc : ct k pc = (67, nx, a, b, wp, ix, v)) (kk : G L xs k n0 nx ls (.long (x * y) :: st) σ r σE) : G L xs k n0 pc ls (.long y :: .long x :: st) σ r σE := by
  intro l dC dI cI cZ cII base b0 p en R s m args below meth c H locs Q mls mc lv hH hP hS hn hc1 hc2 hret
  obtain ⟨hx, hb, hml, hown, hts, hpk, hini, hfr, hlo, hbs, hX⟩ := mc
  obtain ⟨hd, hnx, hsd, hk⟩ := ct_ok hc rfl
  have hd : decode (mb k) pc = .ok (.lmul, 1) := hd
  have e : nx = pc + 1 := Nat.eq_of_beq_eq_true hnx
  subst e
  exact lv_lmul hx hb hd (kk l dC dI cI cZ cII base b0 p en R s m args below meth c H locs Q mls ⟨hx, hb, hml, hown, hts, hpk, hini, hfr, hlo, hbs, hX⟩ lv hH hP hS hn hc1 hc2 hret)
theorem G_ladd {L : Nat} {xs : Nat → Int32} {k n0 pc nx a b wp ix : Nat} {v : Int32} {ls : Lc} {st : List Value} {σ σE : St} {r : Option Value} {x y : Int64} (hc : ct k pc = (68, nx, a, b, wp, ix, v)) (kk : G L xs k n0 nx ls (.long (x + y) :: st) σ r σE) : G L xs k n0 pc ls (.long y :: .long x :: st) σ r σE := by
  intro l dC dI cI cZ cII base b0 p en R s m args below meth c H locs Q mls mc lv hH hP hS hn hc1 hc2 hret
  obtain ⟨hx, hb, hml, hown, hts, hpk, hini, hfr, hlo, hbs, hX⟩ := mc
  obtain ⟨hd, hnx, hsd, hk⟩ := ct_ok hc rfl
  have hd : decode (mb k) pc = .ok (.ladd, 1) := hd
  have e : nx = pc + 1 := Nat.eq_of_beq_eq_true hnx
  subst e
  exact lv_ladd hx hb hd (kk l dC dI cI cZ cII base b0 p en R s m args below meth c H locs Q mls ⟨hx, hb, hml, hown, hts, hpk, hini, hfr, hlo, hbs, hX⟩ lv hH hP hS hn hc1 hc2 hret)
theorem G_lcmp {L : Nat} {xs : Nat → Int32} {k n0 pc nx a b wp ix : Nat} {v : Int32} {ls : Lc} {st : List Value} {σ σE : St} {r : Option Value} {x y : Int64} (hc : ct k pc = (69, nx, a, b, wp, ix, v)) (kk : G L xs k n0 nx ls (.int (lg_cmp x y) :: st) σ r σE) : G L xs k n0 pc ls (.long y :: .long x :: st) σ r σE := by
  intro l dC dI cI cZ cII base b0 p en R s m args below meth c H locs Q mls mc lv hH hP hS hn hc1 hc2 hret
  obtain ⟨hx, hb, hml, hown, hts, hpk, hini, hfr, hlo, hbs, hX⟩ := mc
  obtain ⟨hd, hnx, hsd, hk⟩ := ct_ok hc rfl
  have hd : decode (mb k) pc = .ok (.lcmp, 1) := hd
  have e : nx = pc + 1 := Nat.eq_of_beq_eq_true hnx
  subst e
  exact W.lcmp hx hb hd (kk l dC dI cI cZ cII base b0 p en R s m args below meth c H locs Q mls ⟨hx, hb, hml, hown, hts, hpk, hini, hfr, hlo, hbs, hX⟩ lv hH hP hS hn hc1 hc2 hret)
theorem G_ldc2l {L : Nat} {xs : Nat → Int32} {k n0 pc nx a b wp ix : Nat} {v : Int32} {ls : Lc} {st : List Value} {σ σE : St} {r : Option Value}  (hc : ct k pc = (70, nx, a, b, wp, ix, v)) (kk : G L xs k n0 nx ls (.long v.toInt64 :: st) σ r σE) : G L xs k n0 pc ls (st) σ r σE := by
  intro l dC dI cI cZ cII base b0 p en R s m args below meth c H locs Q mls mc lv hH hP hS hn hc1 hc2 hret
  obtain ⟨hx, hb, hml, hown, hts, hpk, hini, hfr, hlo, hbs, hX⟩ := mc
  obtain ⟨hd, hnx, hsd, hk⟩ := ct_ok hc rfl
  have hd : decode (mb k) pc = .ok (.ldc2_w ix, 3) := hd
  have e : nx = pc + 3 := Nat.eq_of_beq_eq_true hnx
  subst e
  exact lv_ldc2 hx hb hown (hts _ (memW_ok hsd)) hd (kk l dC dI cI cZ cII base b0 p en R s m args below meth c H locs Q mls ⟨hx, hb, hml, hown, hts, hpk, hini, hfr, hlo, hbs, hX⟩ lv hH hP hS hn hc1 hc2 hret)
theorem G_lload_n {L : Nat} {xs : Nat → Int32} {k n0 pc nx a b wp ix : Nat} {v : Int32} {ls : Lc} {st : List Value} {σ σE : St} {r : Option Value} {x : Int64} (hc : ct k pc = (71, nx, a, b, wp, ix, v)) (hl : ls[a]? = some (some (.long x))) (kk : G L xs k n0 nx ls (.long x :: st) σ r σE) : G L xs k n0 pc ls (st) σ r σE := by
  intro l dC dI cI cZ cII base b0 p en R s m args below meth c H locs Q mls mc lv hH hP hS hn hc1 hc2 hret
  obtain ⟨hx, hb, hml, hown, hts, hpk, hini, hfr, hlo, hbs, hX⟩ := mc
  obtain ⟨hd, hnx, hsd, hk⟩ := ct_ok hc rfl
  have hd : decode (mb k) pc = .ok (.lload_n (f4 a), 1) := hd
  have e : nx = pc + 1 := Nat.eq_of_beq_eq_true hnx
  subst e
  have hsd : (Nat.blt a (mL k) && Nat.blt a 4) = true := hsd
  rw [Bool.and_eq_true] at hsd
  exact lv_lload_n hx hb hd (f4_eq hsd.2) (lv.2.2 a _ hl) (kk l dC dI cI cZ cII base b0 p en R s m args below meth c H locs Q mls ⟨hx, hb, hml, hown, hts, hpk, hini, hfr, hlo, hbs, hX⟩ lv hH hP hS hn hc1 hc2 hret)
theorem G_lload {L : Nat} {xs : Nat → Int32} {k n0 pc nx a b wp ix : Nat} {v : Int32} {ls : Lc} {st : List Value} {σ σE : St} {r : Option Value} {x : Int64} (hc : ct k pc = (72, nx, a, b, wp, ix, v)) (hl : ls[a]? = some (some (.long x))) (kk : G L xs k n0 nx ls (.long x :: st) σ r σE) : G L xs k n0 pc ls (st) σ r σE := by
  intro l dC dI cI cZ cII base b0 p en R s m args below meth c H locs Q mls mc lv hH hP hS hn hc1 hc2 hret
  obtain ⟨hx, hb, hml, hown, hts, hpk, hini, hfr, hlo, hbs, hX⟩ := mc
  obtain ⟨hd, hnx, hsd, hk⟩ := ct_ok hc rfl
  have hd : decode (mb k) pc = .ok (.lload a, 2) := hd
  have e : nx = pc + 2 := Nat.eq_of_beq_eq_true hnx
  subst e
  exact lv_lload hx hb hd (lv.2.2 a _ hl) (kk l dC dI cI cZ cII base b0 p en R s m args below meth c H locs Q mls ⟨hx, hb, hml, hown, hts, hpk, hini, hfr, hlo, hbs, hX⟩ lv hH hP hS hn hc1 hc2 hret)
theorem G_lstore_n {L : Nat} {xs : Nat → Int32} {k n0 pc nx a b wp ix : Nat} {v : Int32} {ls : Lc} {st : List Value} {σ σE : St} {r : Option Value} {x : Int64} (hc : ct k pc = (73, nx, a, b, wp, ix, v)) (hnd : ndb ls a = true) (kk : G L xs k n0 nx ((ls.set a (some (.long x))).set (a + 1) none) (st) σ r σE) : G L xs k n0 pc ls (.long x :: st) σ r σE := by
  intro l dC dI cI cZ cII base b0 p en R s m args below meth c H locs Q mls mc lv hH hP hS hn hc1 hc2 hret
  obtain ⟨hx, hb, hml, hown, hts, hpk, hini, hfr, hlo, hbs, hX⟩ := mc
  obtain ⟨hd, hnx, hsd, hk⟩ := ct_ok hc rfl
  have hd : decode (mb k) pc = .ok (.lstore_n (f4 a), 1) := hd
  have e : nx = pc + 1 := Nat.eq_of_beq_eq_true hnx
  subst e
  have hsd : (Nat.blt (a + 1) (mL k) && Nat.blt a 4) = true := hsd
  rw [Bool.and_eq_true] at hsd
  refine lv_lstore_n hx hb hd (f4_eq hsd.2) lv.has (Nat.le_of_ble_eq_true hsd.1) rfl (fun mls' h' => ?_)
  exact kk l dC dI cI cZ cII base b0 p en R s m args below meth c H locs Q mls' ⟨hx, hb, hml, hown, hts, hpk, hini, hfr, hlo, hbs, hX⟩ (lvr.set2 (x := .long x) hnd h') hH hP hS hn hc1 hc2 hret
theorem G_lstore {L : Nat} {xs : Nat → Int32} {k n0 pc nx a b wp ix : Nat} {v : Int32} {ls : Lc} {st : List Value} {σ σE : St} {r : Option Value} {x : Int64} (hc : ct k pc = (74, nx, a, b, wp, ix, v)) (hnd : ndb ls a = true) (kk : G L xs k n0 nx ((ls.set a (some (.long x))).set (a + 1) none) (st) σ r σE) : G L xs k n0 pc ls (.long x :: st) σ r σE := by
  intro l dC dI cI cZ cII base b0 p en R s m args below meth c H locs Q mls mc lv hH hP hS hn hc1 hc2 hret
  obtain ⟨hx, hb, hml, hown, hts, hpk, hini, hfr, hlo, hbs, hX⟩ := mc
  obtain ⟨hd, hnx, hsd, hk⟩ := ct_ok hc rfl
  have hd : decode (mb k) pc = .ok (.lstore a, 2) := hd
  have e : nx = pc + 2 := Nat.eq_of_beq_eq_true hnx
  subst e
  refine lv_lstore hx hb hd lv.has (Nat.le_of_ble_eq_true hsd) rfl (fun mls' h' => ?_)
  exact kk l dC dI cI cZ cII base b0 p en R s m args below meth c H locs Q mls' ⟨hx, hb, hml, hown, hts, hpk, hini, hfr, hlo, hbs, hX⟩ (lvr.set2 (x := .long x) hnd h') hH hP hS hn hc1 hc2 hret
theorem G_ishr {L : Nat} {xs : Nat → Int32} {k n0 pc nx a b wp ix : Nat} {v : Int32} {ls : Lc} {st : List Value} {σ σE : St} {r : Option Value} {x y : Int32} (hc : ct k pc = (75, nx, a, b, wp, ix, v)) (kk : G L xs k n0 nx ls (.int (x >>> (y &&& 31)) :: st) σ r σE) : G L xs k n0 pc ls (.int y :: .int x :: st) σ r σE := by
  intro l dC dI cI cZ cII base b0 p en R s m args below meth c H locs Q mls mc lv hH hP hS hn hc1 hc2 hret
  obtain ⟨hx, hb, hml, hown, hts, hpk, hini, hfr, hlo, hbs, hX⟩ := mc
  obtain ⟨hd, hnx, hsd, hk⟩ := ct_ok hc rfl
  have hd : decode (mb k) pc = .ok (.ishr, 1) := hd
  have e : nx = pc + 1 := Nat.eq_of_beq_eq_true hnx
  subst e
  exact lv_ishr hx hb hd (kk l dC dI cI cZ cII base b0 p en R s m args below meth c H locs Q mls ⟨hx, hb, hml, hown, hts, hpk, hini, hfr, hlo, hbs, hX⟩ lv hH hP hS hn hc1 hc2 hret)
theorem G_i2d {L : Nat} {xs : Nat → Int32} {k n0 pc nx a b wp ix : Nat} {v : Int32} {ls : Lc} {st : List Value} {σ σE : St} {r : Option Value} {x : Int32} (hc : ct k pc = (22, nx, a, b, wp, ix, v)) (kk : G L xs k n0 nx ls (.double (FP.i2d x) :: st) σ r σE) : G L xs k n0 pc ls (.int x :: st) σ r σE := by
  intro l dC dI cI cZ cII base b0 p en R s m args below meth c H locs Q mls mc lv hH hP hS hn hc1 hc2 hret
  obtain ⟨hx, hb, hml, hown, hts, hpk, hini, hfr, hlo, hbs, hX⟩ := mc
  obtain ⟨hd, hnx, hsd, hk⟩ := ct_ok hc rfl
  have hd : decode (mb k) pc = .ok (.i2d, 1) := hd
  have e : nx = pc + 1 := Nat.eq_of_beq_eq_true hnx
  subst e
  exact lv_i2d hx hb hd (kk l dC dI cI cZ cII base b0 p en R s m args below meth c H locs Q mls ⟨hx, hb, hml, hown, hts, hpk, hini, hfr, hlo, hbs, hX⟩ lv hH hP hS hn hc1 hc2 hret)
theorem G_ddiv {L : Nat} {xs : Nat → Int32} {k n0 pc nx a b wp ix : Nat} {v : Int32} {ls : Lc} {st : List Value} {σ σE : St} {r : Option Value} {x y : UInt64} (hc : ct k pc = (23, nx, a, b, wp, ix, v)) (hne : vf_n64 (FP.ddiv x y)) (kk : G L xs k n0 nx ls (.double (FP.ddiv x y) :: st) σ r σE) : G L xs k n0 pc ls (.double y :: .double x :: st) σ r σE := by
  intro l dC dI cI cZ cII base b0 p en R s m args below meth c H locs Q mls mc lv hH hP hS hn hc1 hc2 hret
  obtain ⟨hx, hb, hml, hown, hts, hpk, hini, hfr, hlo, hbs, hX⟩ := mc
  obtain ⟨hd, hnx, hsd, hk⟩ := ct_ok hc rfl
  have hd : decode (mb k) pc = .ok (.ddiv, 1) := hd
  have e : nx = pc + 1 := Nat.eq_of_beq_eq_true hnx
  subst e
  exact lv_ddiv hx hb hd hne (kk l dC dI cI cZ cII base b0 p en R s m args below meth c H locs Q mls ⟨hx, hb, hml, hown, hts, hpk, hini, hfr, hlo, hbs, hX⟩ lv hH hP hS hn hc1 hc2 hret)
theorem G_dcmpl {L : Nat} {xs : Nat → Int32} {k n0 pc nx a b wp ix : Nat} {v : Int32} {ls : Lc} {st : List Value} {σ σE : St} {r : Option Value} {x y : UInt64} (hc : ct k pc = (24, nx, a, b, wp, ix, v)) (kk : G L xs k n0 nx ls (.int (Op.cmpValue (FP.dcmp x y) .l) :: st) σ r σE) : G L xs k n0 pc ls (.double y :: .double x :: st) σ r σE := by
  intro l dC dI cI cZ cII base b0 p en R s m args below meth c H locs Q mls mc lv hH hP hS hn hc1 hc2 hret
  obtain ⟨hx, hb, hml, hown, hts, hpk, hini, hfr, hlo, hbs, hX⟩ := mc
  obtain ⟨hd, hnx, hsd, hk⟩ := ct_ok hc rfl
  have hd : decode (mb k) pc = .ok (.dcmp .l, 1) := hd
  have e : nx = pc + 1 := Nat.eq_of_beq_eq_true hnx
  subst e
  exact lv_dcmp hx hb hd (kk l dC dI cI cZ cII base b0 p en R s m args below meth c H locs Q mls ⟨hx, hb, hml, hown, hts, hpk, hini, hfr, hlo, hbs, hX⟩ lv hH hP hS hn hc1 hc2 hret)
theorem G_ldc2 {L : Nat} {xs : Nat → Int32} {k n0 pc nx a b wp ix : Nat} {v : Int32} {ls : Lc} {st : List Value} {σ σE : St} {r : Option Value}  (hc : ct k pc = (25, nx, a, b, wp, ix, v)) (kk : G L xs k n0 nx ls (.double K66 :: st) σ r σE) : G L xs k n0 pc ls (st) σ r σE := by
  intro l dC dI cI cZ cII base b0 p en R s m args below meth c H locs Q mls mc lv hH hP hS hn hc1 hc2 hret
  obtain ⟨hx, hb, hml, hown, hts, hpk, hini, hfr, hlo, hbs, hX⟩ := mc
  obtain ⟨hd, hnx, hsd, hk⟩ := ct_ok hc rfl
  have hd : decode (mb k) pc = .ok (.ldc2_w ix, 3) := hd
  have e : nx = pc + 3 := Nat.eq_of_beq_eq_true hnx
  subst e
  exact lv_ldc2d hx hb hown (hts _ (memW_ok hsd)) hd (kk l dC dI cI cZ cII base b0 p en R s m args below meth c H locs Q mls ⟨hx, hb, hml, hown, hts, hpk, hini, hfr, hlo, hbs, hX⟩ lv hH hP hS hn hc1 hc2 hret)
theorem G_dup {L : Nat} {xs : Nat → Int32} {k n0 pc nx a b wp ix : Nat} {v : Int32} {ls : Lc} {st : List Value} {σ σE : St} {r : Option Value} {w : Value} (hc : ct k pc = (26, nx, a, b, wp, ix, v)) (hw : w.category = 1) (kk : G L xs k n0 nx ls (w :: w :: st) σ r σE) : G L xs k n0 pc ls (w :: st) σ r σE := by
  intro l dC dI cI cZ cII base b0 p en R s m args below meth c H locs Q mls mc lv hH hP hS hn hc1 hc2 hret
  obtain ⟨hx, hb, hml, hown, hts, hpk, hini, hfr, hlo, hbs, hX⟩ := mc
  obtain ⟨hd, hnx, hsd, hk⟩ := ct_ok hc rfl
  have hd : decode (mb k) pc = .ok (.dup, 1) := hd
  have e : nx = pc + 1 := Nat.eq_of_beq_eq_true hnx
  subst e
  exact lv_dup hx hb hd (by rw [cv_cat]; exact hw) (kk l dC dI cI cZ cII base b0 p en R s m args below meth c H locs Q mls ⟨hx, hb, hml, hown, hts, hpk, hini, hfr, hlo, hbs, hX⟩ lv hH hP hS hn hc1 hc2 hret)
theorem G_dup2 {L : Nat} {xs : Nat → Int32} {k n0 pc nx a b wp ix : Nat} {v : Int32} {ls : Lc} {st : List Value} {σ σE : St} {r : Option Value} {w u : Value} (hc : ct k pc = (27, nx, a, b, wp, ix, v)) (hw : w.category = 1) (hu : u.category = 1) (kk : G L xs k n0 nx ls (w :: u :: w :: u :: st) σ r σE) : G L xs k n0 pc ls (w :: u :: st) σ r σE := by
  intro l dC dI cI cZ cII base b0 p en R s m args below meth c H locs Q mls mc lv hH hP hS hn hc1 hc2 hret
  obtain ⟨hx, hb, hml, hown, hts, hpk, hini, hfr, hlo, hbs, hX⟩ := mc
  obtain ⟨hd, hnx, hsd, hk⟩ := ct_ok hc rfl
  have hd : decode (mb k) pc = .ok (.dup2, 1) := hd
  have e : nx = pc + 1 := Nat.eq_of_beq_eq_true hnx
  subst e
  exact lv_dup2_11 hx hb hd (by rw [cv_cat]; exact hw) (by rw [cv_cat]; exact hu) (kk l dC dI cI cZ cII base b0 p en R s m args below meth c H locs Q mls ⟨hx, hb, hml, hown, hts, hpk, hini, hfr, hlo, hbs, hX⟩ lv hH hP hS hn hc1 hc2 hret)
theorem G_goto {L : Nat} {xs : Nat → Int32} {k n0 pc nx a b wp ix : Nat} {v : Int32} {ls : Lc} {st : List Value} {σ σE : St} {r : Option Value}  (hc : ct k pc = (28, nx, a, b, wp, ix, v)) (kk : G L xs k n0 nx  ls (st) σ r σE) : G L xs k n0 pc ls (st) σ r σE := by
  intro l dC dI cI cZ cII base b0 p en R s m args below meth c H locs Q mls mc lv hH hP hS hn hc1 hc2 hret
  obtain ⟨hx, hb, hml, hown, hts, hpk, hini, hfr, hlo, hbs, hX⟩ := mc
  obtain ⟨hd, hnx, hsd, hk⟩ := ct_ok hc rfl
  have hd : decode (mb k) pc = .ok (.goto ((nx : Int) - (pc : Int)), 3) := hd
  exact lv_goto hx hb hd (by omega) (kk l dC dI cI cZ cII base b0 p en R s m args below meth c H locs Q mls ⟨hx, hb, hml, hown, hts, hpk, hini, hfr, hlo, hbs, hX⟩ lv hH hP hS hn hc1 hc2 hret)
theorem G_if_eq {L : Nat} {xs : Nat → Int32} {k n0 pc nx a b wp ix : Nat} {v : Int32} {ls : Lc} {st : List Value} {σ σE : St} {r : Option Value} {x : Int32} (hc : ct k pc = (30, nx, a, b, wp, ix, v)) (kt : x = 0 → G L xs k n0 a ls st σ r σE) (kf : ¬ (x = 0) → G L xs k n0 nx ls st σ r σE) : G L xs k n0 pc ls (.int x :: st) σ r σE := by
  intro l dC dI cI cZ cII base b0 p en R s m args below meth c H locs Q mls mc lv hH hP hS hn hc1 hc2 hret
  obtain ⟨hx, hb, hml, hown, hts, hpk, hini, hfr, hlo, hbs, hX⟩ := mc
  obtain ⟨hd, hnx, hsd, hk⟩ := ct_ok hc rfl
  have hd : decode (mb k) pc = .ok (.ifCond .eq ((a : Int) - (pc : Int)), 3) := hd
  have e : nx = pc + 3 := Nat.eq_of_beq_eq_true hnx
  subst e
  exact lv_if_eq hx hb hd (by omega) (fun h => kt h l dC dI cI cZ cII base b0 p en R s m args below meth c H locs Q mls ⟨hx, hb, hml, hown, hts, hpk, hini, hfr, hlo, hbs, hX⟩ lv hH hP hS hn hc1 hc2 hret) (fun h => kf h l dC dI cI cZ cII base b0 p en R s m args below meth c H locs Q mls ⟨hx, hb, hml, hown, hts, hpk, hini, hfr, hlo, hbs, hX⟩ lv hH hP hS hn hc1 hc2 hret)
theorem G_icmp_eq {L : Nat} {xs : Nat → Int32} {k n0 pc nx a b wp ix : Nat} {v : Int32} {ls : Lc} {st : List Value} {σ σE : St} {r : Option Value} {x y : Int32} (hc : ct k pc = (36, nx, a, b, wp, ix, v)) (kt : x = y → G L xs k n0 a ls st σ r σE) (kf : ¬ (x = y) → G L xs k n0 nx ls st σ r σE) : G L xs k n0 pc ls (.int y :: .int x :: st) σ r σE := by
  intro l dC dI cI cZ cII base b0 p en R s m args below meth c H locs Q mls mc lv hH hP hS hn hc1 hc2 hret
  obtain ⟨hx, hb, hml, hown, hts, hpk, hini, hfr, hlo, hbs, hX⟩ := mc
  obtain ⟨hd, hnx, hsd, hk⟩ := ct_ok hc rfl
  have hd : decode (mb k) pc = .ok (.if_icmp .eq ((a : Int) - (pc : Int)), 3) := hd
  have e : nx = pc + 3 := Nat.eq_of_beq_eq_true hnx
  subst e
  exact lv_icmp_eq hx hb hd (by omega) (fun h => kt h l dC dI cI cZ cII base b0 p en R s m args below meth c H locs Q mls ⟨hx, hb, hml, hown, hts, hpk, hini, hfr, hlo, hbs, hX⟩ lv hH hP hS hn hc1 hc2 hret) (fun h => kf h l dC dI cI cZ cII base b0 p en R s m args below meth c H locs Q mls ⟨hx, hb, hml, hown, hts, hpk, hini, hfr, hlo, hbs, hX⟩ lv hH hP hS hn hc1 hc2 hret)
theorem G_if_ne {L : Nat} {xs : Nat → Int32} {k n0 pc nx a b wp ix : Nat} {v : Int32} {ls : Lc} {st : List Value} {σ σE : St} {r : Option Value} {x : Int32} (hc : ct k pc = (31, nx, a, b, wp, ix, v)) (kt : ¬ x = 0 → G L xs k n0 a ls st σ r σE) (kf : ¬ (¬ x = 0) → G L xs k n0 nx ls st σ r σE) : G L xs k n0 pc ls (.int x :: st) σ r σE := by
  intro l dC dI cI cZ cII base b0 p en R s m args below meth c H locs Q mls mc lv hH hP hS hn hc1 hc2 hret
  obtain ⟨hx, hb, hml, hown, hts, hpk, hini, hfr, hlo, hbs, hX⟩ := mc
  obtain ⟨hd, hnx, hsd, hk⟩ := ct_ok hc rfl
  have hd : decode (mb k) pc = .ok (.ifCond .ne ((a : Int) - (pc : Int)), 3) := hd
  have e : nx = pc + 3 := Nat.eq_of_beq_eq_true hnx
  subst e
  exact lv_if_ne hx hb hd (by omega) (fun h => kt h l dC dI cI cZ cII base b0 p en R s m args below meth c H locs Q mls ⟨hx, hb, hml, hown, hts, hpk, hini, hfr, hlo, hbs, hX⟩ lv hH hP hS hn hc1 hc2 hret) (fun h => kf (fun h2 => h2 h) l dC dI cI cZ cII base b0 p en R s m args below meth c H locs Q mls ⟨hx, hb, hml, hown, hts, hpk, hini, hfr, hlo, hbs, hX⟩ lv hH hP hS hn hc1 hc2 hret)
theorem G_icmp_ne {L : Nat} {xs : Nat → Int32} {k n0 pc nx a b wp ix : Nat} {v : Int32} {ls : Lc} {st : List Value} {σ σE : St} {r : Option Value} {x y : Int32} (hc : ct k pc = (37, nx, a, b, wp, ix, v)) (kt : ¬ x = y → G L xs k n0 a ls st σ r σE) (kf : ¬ (¬ x = y) → G L xs k n0 nx ls st σ r σE) : G L xs k n0 pc ls (.int y :: .int x :: st) σ r σE := by
  intro l dC dI cI cZ cII base b0 p en R s m args below meth c H locs Q mls mc lv hH hP hS hn hc1 hc2 hret
  obtain ⟨hx, hb, hml, hown, hts, hpk, hini, hfr, hlo, hbs, hX⟩ := mc
  obtain ⟨hd, hnx, hsd, hk⟩ := ct_ok hc rfl
  have hd : decode (mb k) pc = .ok (.if_icmp .ne ((a : Int) - (pc : Int)), 3) := hd
  have e : nx = pc + 3 := Nat.eq_of_beq_eq_true hnx
  subst e
  exact lv_icmp_ne hx hb hd (by omega) (fun h => kt h l dC dI cI cZ cII base b0 p en R s m args below meth c H locs Q mls ⟨hx, hb, hml, hown, hts, hpk, hini, hfr, hlo, hbs, hX⟩ lv hH hP hS hn hc1 hc2 hret) (fun h => kf (fun h2 => h2 h) l dC dI cI cZ cII base b0 p en R s m args below meth c H locs Q mls ⟨hx, hb, hml, hown, hts, hpk, hini, hfr, hlo, hbs, hX⟩ lv hH hP hS hn hc1 hc2 hret)
theorem G_if_lt {L : Nat} {xs : Nat → Int32} {k n0 pc nx a b wp ix : Nat} {v : Int32} {ls : Lc} {st : List Value} {σ σE : St} {r : Option Value} {x : Int32} (hc : ct k pc = (32, nx, a, b, wp, ix, v)) (kt : x < 0 → G L xs k n0 a ls st σ r σE) (kf : ¬ (x < 0) → G L xs k n0 nx ls st σ r σE) : G L xs k n0 pc ls (.int x :: st) σ r σE := by
  intro l dC dI cI cZ cII base b0 p en R s m args below meth c H locs Q mls mc lv hH hP hS hn hc1 hc2 hret
  obtain ⟨hx, hb, hml, hown, hts, hpk, hini, hfr, hlo, hbs, hX⟩ := mc
  obtain ⟨hd, hnx, hsd, hk⟩ := ct_ok hc rfl
  have hd : decode (mb k) pc = .ok (.ifCond .lt ((a : Int) - (pc : Int)), 3) := hd
  have e : nx = pc + 3 := Nat.eq_of_beq_eq_true hnx
  subst e
  exact lv_if_lt hx hb hd (by omega) (fun h => kt h l dC dI cI cZ cII base b0 p en R s m args below meth c H locs Q mls ⟨hx, hb, hml, hown, hts, hpk, hini, hfr, hlo, hbs, hX⟩ lv hH hP hS hn hc1 hc2 hret) (fun h => kf h l dC dI cI cZ cII base b0 p en R s m args below meth c H locs Q mls ⟨hx, hb, hml, hown, hts, hpk, hini, hfr, hlo, hbs, hX⟩ lv hH hP hS hn hc1 hc2 hret)
theorem G_icmp_lt {L : Nat} {xs : Nat → Int32} {k n0 pc nx a b wp ix : Nat} {v : Int32} {ls : Lc} {st : List Value} {σ σE : St} {r : Option Value} {x y : Int32} (hc : ct k pc = (38, nx, a, b, wp, ix, v)) (kt : x < y → G L xs k n0 a ls st σ r σE) (kf : ¬ (x < y) → G L xs k n0 nx ls st σ r σE) : G L xs k n0 pc ls (.int y :: .int x :: st) σ r σE := by
  intro l dC dI cI cZ cII base b0 p en R s m args below meth c H locs Q mls mc lv hH hP hS hn hc1 hc2 hret
  obtain ⟨hx, hb, hml, hown, hts, hpk, hini, hfr, hlo, hbs, hX⟩ := mc
  obtain ⟨hd, hnx, hsd, hk⟩ := ct_ok hc rfl
  have hd : decode (mb k) pc = .ok (.if_icmp .lt ((a : Int) - (pc : Int)), 3) := hd
  have e : nx = pc + 3 := Nat.eq_of_beq_eq_true hnx
  subst e
  exact lv_icmp_lt hx hb hd (by omega) (fun h => kt h l dC dI cI cZ cII base b0 p en R s m args below meth c H locs Q mls ⟨hx, hb, hml, hown, hts, hpk, hini, hfr, hlo, hbs, hX⟩ lv hH hP hS hn hc1 hc2 hret) (fun h => kf h l dC dI cI cZ cII base b0 p en R s m args below meth c H locs Q mls ⟨hx, hb, hml, hown, hts, hpk, hini, hfr, hlo, hbs, hX⟩ lv hH hP hS hn hc1 hc2 hret)
theorem G_if_ge {L : Nat} {xs : Nat → Int32} {k n0 pc nx a b wp ix : Nat} {v : Int32} {ls : Lc} {st : List Value} {σ σE : St} {r : Option Value} {x : Int32} (hc : ct k pc = (33, nx, a, b, wp, ix, v)) (kt : 0 ≤ x → G L xs k n0 a ls st σ r σE) (kf : ¬ (0 ≤ x) → G L xs k n0 nx ls st σ r σE) : G L xs k n0 pc ls (.int x :: st) σ r σE := by
  intro l dC dI cI cZ cII base b0 p en R s m args below meth c H locs Q mls mc lv hH hP hS hn hc1 hc2 hret
  obtain ⟨hx, hb, hml, hown, hts, hpk, hini, hfr, hlo, hbs, hX⟩ := mc
  obtain ⟨hd, hnx, hsd, hk⟩ := ct_ok hc rfl
  have hd : decode (mb k) pc = .ok (.ifCond .ge ((a : Int) - (pc : Int)), 3) := hd
  have e : nx = pc + 3 := Nat.eq_of_beq_eq_true hnx
  subst e
  exact lv_if_ge hx hb hd (by omega) (fun h => kt h l dC dI cI cZ cII base b0 p en R s m args below meth c H locs Q mls ⟨hx, hb, hml, hown, hts, hpk, hini, hfr, hlo, hbs, hX⟩ lv hH hP hS hn hc1 hc2 hret) (fun h => kf h l dC dI cI cZ cII base b0 p en R s m args below meth c H locs Q mls ⟨hx, hb, hml, hown, hts, hpk, hini, hfr, hlo, hbs, hX⟩ lv hH hP hS hn hc1 hc2 hret)
theorem G_icmp_ge {L : Nat} {xs : Nat → Int32} {k n0 pc nx a b wp ix : Nat} {v : Int32} {ls : Lc} {st : List Value} {σ σE : St} {r : Option Value} {x y : Int32} (hc : ct k pc = (39, nx, a, b, wp, ix, v)) (kt : y ≤ x → G L xs k n0 a ls st σ r σE) (kf : ¬ (y ≤ x) → G L xs k n0 nx ls st σ r σE) : G L xs k n0 pc ls (.int y :: .int x :: st) σ r σE := by
  intro l dC dI cI cZ cII base b0 p en R s m args below meth c H locs Q mls mc lv hH hP hS hn hc1 hc2 hret
  obtain ⟨hx, hb, hml, hown, hts, hpk, hini, hfr, hlo, hbs, hX⟩ := mc
  obtain ⟨hd, hnx, hsd, hk⟩ := ct_ok hc rfl
  have hd : decode (mb k) pc = .ok (.if_icmp .ge ((a : Int) - (pc : Int)), 3) := hd
  have e : nx = pc + 3 := Nat.eq_of_beq_eq_true hnx
  subst e
  exact lv_icmp_ge hx hb hd (by omega) (fun h => kt h l dC dI cI cZ cII base b0 p en R s m args below meth c H locs Q mls ⟨hx, hb, hml, hown, hts, hpk, hini, hfr, hlo, hbs, hX⟩ lv hH hP hS hn hc1 hc2 hret) (fun h => kf h l dC dI cI cZ cII base b0 p en R s m args below meth c H locs Q mls ⟨hx, hb, hml, hown, hts, hpk, hini, hfr, hlo, hbs, hX⟩ lv hH hP hS hn hc1 hc2 hret)
theorem G_if_gt {L : Nat} {xs : Nat → Int32} {k n0 pc nx a b wp ix : Nat} {v : Int32} {ls : Lc} {st : List Value} {σ σE : St} {r : Option Value} {x : Int32} (hc : ct k pc = (34, nx, a, b, wp, ix, v)) (kt : 0 < x → G L xs k n0 a ls st σ r σE) (kf : ¬ (0 < x) → G L xs k n0 nx ls st σ r σE) : G L xs k n0 pc ls (.int x :: st) σ r σE := by
  intro l dC dI cI cZ cII base b0 p en R s m args below meth c H locs Q mls mc lv hH hP hS hn hc1 hc2 hret
  obtain ⟨hx, hb, hml, hown, hts, hpk, hini, hfr, hlo, hbs, hX⟩ := mc
  obtain ⟨hd, hnx, hsd, hk⟩ := ct_ok hc rfl
  have hd : decode (mb k) pc = .ok (.ifCond .gt ((a : Int) - (pc : Int)), 3) := hd
  have e : nx = pc + 3 := Nat.eq_of_beq_eq_true hnx
  subst e
  exact lv_if_gt hx hb hd (by omega) (fun h => kt h l dC dI cI cZ cII base b0 p en R s m args below meth c H locs Q mls ⟨hx, hb, hml, hown, hts, hpk, hini, hfr, hlo, hbs, hX⟩ lv hH hP hS hn hc1 hc2 hret) (fun h => kf h l dC dI cI cZ cII base b0 p en R s m args below meth c H locs Q mls ⟨hx, hb, hml, hown, hts, hpk, hini, hfr, hlo, hbs, hX⟩ lv hH hP hS hn hc1 hc2 hret)
theorem G_icmp_gt {L : Nat} {xs : Nat → Int32} {k n0 pc nx a b wp ix : Nat} {v : Int32} {ls : Lc} {st : List Value} {σ σE : St} {r : Option Value} {x y : Int32} (hc : ct k pc = (40, nx, a, b, wp, ix, v)) (kt : y < x → G L xs k n0 a ls st σ r σE) (kf : ¬ (y < x) → G L xs k n0 nx ls st σ r σE) : G L xs k n0 pc ls (.int y :: .int x :: st) σ r σE := by
  intro l dC dI cI cZ cII base b0 p en R s m args below meth c H locs Q mls mc lv hH hP hS hn hc1 hc2 hret
  obtain ⟨hx, hb, hml, hown, hts, hpk, hini, hfr, hlo, hbs, hX⟩ := mc
  obtain ⟨hd, hnx, hsd, hk⟩ := ct_ok hc rfl
  have hd : decode (mb k) pc = .ok (.if_icmp .gt ((a : Int) - (pc : Int)), 3) := hd
  have e : nx = pc + 3 := Nat.eq_of_beq_eq_true hnx
  subst e
  exact lv_icmp_gt hx hb hd (by omega) (fun h => kt h l dC dI cI cZ cII base b0 p en R s m args below meth c H locs Q mls ⟨hx, hb, hml, hown, hts, hpk, hini, hfr, hlo, hbs, hX⟩ lv hH hP hS hn hc1 hc2 hret) (fun h => kf h l dC dI cI cZ cII base b0 p en R s m args below meth c H locs Q mls ⟨hx, hb, hml, hown, hts, hpk, hini, hfr, hlo, hbs, hX⟩ lv hH hP hS hn hc1 hc2 hret)
theorem G_if_le {L : Nat} {xs : Nat → Int32} {k n0 pc nx a b wp ix : Nat} {v : Int32} {ls : Lc} {st : List Value} {σ σE : St} {r : Option Value} {x : Int32} (hc : ct k pc = (35, nx, a, b, wp, ix, v)) (kt : x ≤ 0 → G L xs k n0 a ls st σ r σE) (kf : ¬ (x ≤ 0) → G L xs k n0 nx ls st σ r σE) : G L xs k n0 pc ls (.int x :: st) σ r σE := by
  intro l dC dI cI cZ cII base b0 p en R s m args below meth c H locs Q mls mc lv hH hP hS hn hc1 hc2 hret
  obtain ⟨hx, hb, hml, hown, hts, hpk, hini, hfr, hlo, hbs, hX⟩ := mc
  obtain ⟨hd, hnx, hsd, hk⟩ := ct_ok hc rfl
  have hd : decode (mb k) pc = .ok (.ifCond .le ((a : Int) - (pc : Int)), 3) := hd
  have e : nx = pc + 3 := Nat.eq_of_beq_eq_true hnx
  subst e
  exact lv_if_le hx hb hd (by omega) (fun h => kt h l dC dI cI cZ cII base b0 p en R s m args below meth c H locs Q mls ⟨hx, hb, hml, hown, hts, hpk, hini, hfr, hlo, hbs, hX⟩ lv hH hP hS hn hc1 hc2 hret) (fun h => kf h l dC dI cI cZ cII base b0 p en R s m args below meth c H locs Q mls ⟨hx, hb, hml, hown, hts, hpk, hini, hfr, hlo, hbs, hX⟩ lv hH hP hS hn hc1 hc2 hret)
theorem G_icmp_le {L : Nat} {xs : Nat → Int32} {k n0 pc nx a b wp ix : Nat} {v : Int32} {ls : Lc} {st : List Value} {σ σE : St} {r : Option Value} {x y : Int32} (hc : ct k pc = (41, nx, a, b, wp, ix, v)) (kt : x ≤ y → G L xs k n0 a ls st σ r σE) (kf : ¬ (x ≤ y) → G L xs k n0 nx ls st σ r σE) : G L xs k n0 pc ls (.int y :: .int x :: st) σ r σE := by
  intro l dC dI cI cZ cII base b0 p en R s m args below meth c H locs Q mls mc lv hH hP hS hn hc1 hc2 hret
  obtain ⟨hx, hb, hml, hown, hts, hpk, hini, hfr, hlo, hbs, hX⟩ := mc
  obtain ⟨hd, hnx, hsd, hk⟩ := ct_ok hc rfl
  have hd : decode (mb k) pc = .ok (.if_icmp .le ((a : Int) - (pc : Int)), 3) := hd
  have e : nx = pc + 3 := Nat.eq_of_beq_eq_true hnx
  subst e
  exact lv_icmp_le hx hb hd (by omega) (fun h => kt h l dC dI cI cZ cII base b0 p en R s m args below meth c H locs Q mls ⟨hx, hb, hml, hown, hts, hpk, hini, hfr, hlo, hbs, hX⟩ lv hH hP hS hn hc1 hc2 hret) (fun h => kf h l dC dI cI cZ cII base b0 p en R s m args below meth c H locs Q mls ⟨hx, hb, hml, hown, hts, hpk, hini, hfr, hlo, hbs, hX⟩ lv hH hP hS hn hc1 hc2 hret)
