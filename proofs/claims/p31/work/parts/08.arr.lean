theorem KT_n {i t n : Nat} (h : KT i = (t, n)) : n < 1000 := by
  have h1 : KTl.all (fun q => Nat.blt q.2 1000) = true := by decide +kernel
  by_cases hi : i < KTl.length
  · have h2 := List.all_eq_true.mp h1 KTl[i] (List.getElem_mem hi)
    have h3 : KT i = KTl[i] := by
      unfold KT
      rw [List.getD_eq_getElem?_getD, List.getElem?_eq_getElem hi]
      rfl
    rw [← h3, h] at h2
    exact Nat.le_of_ble_eq_true h2
  · have h3 : KT i = (9, 0) := by
      unfold KT
      rw [List.getD_eq_getElem?_getD, List.getElem?_eq_none (Nat.le_of_not_lt hi)]
      rfl
    rw [h3] at h
    have := congrArg Prod.snd h
    simp at this
    omega
theorem nI_vp {i : Int32} {j n : Nat} (e : i = nI j) (hj : j < n) (hn : n < 2 ^ 31) : vp_in i n ∧ i.toNatClampNeg = j := by
  subst e
  exact ⟨vp_in_nI hj hn, nI_clamp (by omega)⟩

theorem G_iaload {L : Nat} {xs : Nat → Int32} {k n0 pc nx a b wp ix : Nat} {v : Int32} {ls : Lc} {st : List Value} {σ σE : St} {r : Option Value} {i : Int32} {q j n : Nat}  (hc : ct k pc = (46, nx, a, b, wp, ix, v)) (e : i = nI j) (hK : KT q = (0, n)) (hj : j < n) (hq : Nat.blt q σ.2.2 = true) (kk : G L xs k n0 nx ls (.int (σ.1 q j) :: st) σ r σE) : G L xs k n0 pc ls (.int i :: .ref q :: st) σ r σE := by
  intro l dC dI cI cZ cII base b0 p en R s m args below meth c H locs Q mls mc lv hH hP hS hn hc1 hc2 hret
  obtain ⟨hx, hb, hml, hown, hts, hpk, hini, hfr, hlo, hbs, hX⟩ := mc
  obtain ⟨hd, hnx, hsd, hk⟩ := ct_ok hc rfl
  have hd : decode (mb k) pc = .ok (.iaload, 1) := hd
  have e1 : nx = pc + 1 := Nat.eq_of_beq_eq_true hnx
  subst e1
  have hqn : q < σ.2.2 := Nat.le_of_ble_eq_true hq
  have h32 : q < 24 := KT_lt hK (by decide)
  obtain ⟨hin, hcl⟩ := nI_vp e hj (Nat.lt_trans (KT_n hK) (by decide))
  show W p l en R s m args below meth c H locs _ _ Q (F0 m pc mls (.int i :: cv base b0 (.ref q) :: st.map (cv base b0)))
  rw [cv_ref h32]
  refine va_iald (D := (dC, dI)) hx hb hpk.1 hP q 0 (vw_get hqn |>.trans (by rw [vent_i hK])) rfl hin hd ?_
  rw [hcl]
  exact kk l dC dI cI cZ cII base b0 p en R s m args below meth c H locs Q mls ⟨hx, hb, hml, hown, hts, hpk, hini, hfr, hlo, hbs, hX⟩ lv hH hP hS hn hc1 hc2 hret
theorem G_baload {L : Nat} {xs : Nat → Int32} {k n0 pc nx a b wp ix : Nat} {v : Int32} {ls : Lc} {st : List Value} {σ σE : St} {r : Option Value} {i : Int32} {q j n : Nat}  (hc : ct k pc = (47, nx, a, b, wp, ix, v)) (e : i = nI j) (hK : KT q = (1, n)) (hj : j < n) (hq : Nat.blt q σ.2.2 = true) (kk : G L xs k n0 nx ls (.int (σ.1 q j) :: st) σ r σE) : G L xs k n0 pc ls (.int i :: .ref q :: st) σ r σE := by
  intro l dC dI cI cZ cII base b0 p en R s m args below meth c H locs Q mls mc lv hH hP hS hn hc1 hc2 hret
  obtain ⟨hx, hb, hml, hown, hts, hpk, hini, hfr, hlo, hbs, hX⟩ := mc
  obtain ⟨hd, hnx, hsd, hk⟩ := ct_ok hc rfl
  have hd : decode (mb k) pc = .ok (.baload, 1) := hd
  have e1 : nx = pc + 1 := Nat.eq_of_beq_eq_true hnx
  subst e1
  have hqn : q < σ.2.2 := Nat.le_of_ble_eq_true hq
  have h32 : q < 24 := KT_lt hK (by decide)
  obtain ⟨hin, hcl⟩ := nI_vp e hj (Nat.lt_trans (KT_n hK) (by decide))
  show W p l en R s m args below meth c H locs _ _ Q (F0 m pc mls (.int i :: cv base b0 (.ref q) :: st.map (cv base b0)))
  rw [cv_ref h32]
  refine va_zald (D := (dC, dI)) hx hb hpk.1 hP q 1 (vw_get hqn |>.trans (by rw [vent_z hK])) rfl hin hd ?_
  rw [hcl]
  exact kk l dC dI cI cZ cII base b0 p en R s m args below meth c H locs Q mls ⟨hx, hb, hml, hown, hts, hpk, hini, hfr, hlo, hbs, hX⟩ lv hH hP hS hn hc1 hc2 hret
theorem G_saload {L : Nat} {xs : Nat → Int32} {k n0 pc nx a b wp ix : Nat} {v : Int32} {ls : Lc} {st : List Value} {σ σE : St} {r : Option Value} {i : Int32} {q j n : Nat}  (hc : ct k pc = (46, nx, a, b, wp, ix, v)) (e : i = nI j) (hk0 : Nat.blt k 2 = true) (hj : j < L) (hL : L < 2 ^ 31) (kk : G L xs k n0 nx ls (.int (xs j) :: st) σ r σE) : G L xs k n0 pc ls (.int i :: .ref 1000 :: st) σ r σE := by
  intro l dC dI cI cZ cII base b0 p en R s m args below meth c H locs Q mls mc lv hH hP hS hn hc1 hc2 hret
  obtain ⟨hx, hb, hml, hown, hts, hpk, hini, hfr, hlo, hbs, hX⟩ := mc
  obtain ⟨hd, hnx, hsd, hk⟩ := ct_ok hc rfl
  have hd : decode (mb k) pc = .ok (.iaload, 1) := hd
  have e1 : nx = pc + 1 := Nat.eq_of_beq_eq_true hnx
  subst e1
  obtain ⟨hin, hcl⟩ := nI_vp e hj hL
  obtain ⟨x1, x2, x3⟩ := hX hk0
  show W p l en R s m args below meth c H locs _ _ Q (F0 m pc mls (.int i :: .ref b0 :: st.map (cv base b0)))
  refine va_sld hx hb x1 x2 (show ¬ base ≤ b0 by omega) hS hin hd ?_
  rw [hcl]
  exact kk l dC dI cI cZ cII base b0 p en R s m args below meth c H locs Q mls ⟨hx, hb, hml, hown, hts, hpk, hini, hfr, hlo, hbs, hX⟩ lv hH hP hS hn hc1 hc2 hret
theorem G_slen {L : Nat} {xs : Nat → Int32} {k n0 pc nx a b wp ix : Nat} {v : Int32} {ls : Lc} {st : List Value} {σ σE : St} {r : Option Value} (hc : ct k pc = (52, nx, a, b, wp, ix, v)) (hk0 : Nat.blt k 2 = true) (kk : G L xs k n0 nx ls (.int (nI L) :: st) σ r σE) : G L xs k n0 pc ls (.ref 1000 :: st) σ r σE := by
  intro l dC dI cI cZ cII base b0 p en R s m args below meth c H locs Q mls mc lv hH hP hS hn hc1 hc2 hret
  obtain ⟨hx, hb, hml, hown, hts, hpk, hini, hfr, hlo, hbs, hX⟩ := mc
  obtain ⟨hd, hnx, hsd, hk⟩ := ct_ok hc rfl
  have hd : decode (mb k) pc = .ok (.arraylength, 1) := hd
  have e1 : nx = pc + 1 := Nat.eq_of_beq_eq_true hnx
  subst e1
  obtain ⟨x1, x2, x3⟩ := hX hk0
  show W p l en R s m args below meth c H locs _ _ Q (F0 m pc mls (.ref b0 :: st.map (cv base b0)))
  refine va_slen hx hb x1 x2 (show ¬ base ≤ b0 by omega) hS hd ?_
  exact kk l dC dI cI cZ cII base b0 p en R s m args below meth c H locs Q mls ⟨hx, hb, hml, hown, hts, hpk, hini, hfr, hlo, hbs, hX⟩ lv hH hP hS hn hc1 hc2 hret
theorem G_alen {L : Nat} {xs : Nat → Int32} {k n0 pc nx a b wp ix : Nat} {v : Int32} {ls : Lc} {st : List Value} {σ σE : St} {r : Option Value} {q n : Nat} (hc : ct k pc = (52, nx, a, b, wp, ix, v)) (hK : KT q = (0, n)) (hq : Nat.blt q σ.2.2 = true) (kk : G L xs k n0 nx ls (.int (nI n) :: st) σ r σE) : G L xs k n0 pc ls (.ref q :: st) σ r σE := by
  intro l dC dI cI cZ cII base b0 p en R s m args below meth c H locs Q mls mc lv hH hP hS hn hc1 hc2 hret
  obtain ⟨hx, hb, hml, hown, hts, hpk, hini, hfr, hlo, hbs, hX⟩ := mc
  obtain ⟨hd, hnx, hsd, hk⟩ := ct_ok hc rfl
  have hd : decode (mb k) pc = .ok (.arraylength, 1) := hd
  have e1 : nx = pc + 1 := Nat.eq_of_beq_eq_true hnx
  subst e1
  have hqn : q < σ.2.2 := Nat.le_of_ble_eq_true hq
  have h32 : q < 24 := KT_lt hK (by decide)
  show W p l en R s m args below meth c H locs _ _ Q (F0 m pc mls (cv base b0 (.ref q) :: st.map (cv base b0)))
  rw [cv_ref h32]
  refine va_alen (D := (dC, dI)) (ty := .int) (v := nI n) hx hb hpk.1 hP q 0 (vw_get hqn |>.trans (by rw [vent_i hK])) rfl rfl hd ?_
  exact kk l dC dI cI cZ cII base b0 p en R s m args below meth c H locs Q mls ⟨hx, hb, hml, hown, hts, hpk, hini, hfr, hlo, hbs, hX⟩ lv hH hP hS hn hc1 hc2 hret
theorem G_iastore {L : Nat} {xs : Nat → Int32} {k n0 pc nx a b wp ix : Nat} {v : Int32} {ls : Lc} {st : List Value} {σ σE : St} {r : Option Value} {i : Int32} {q j n : Nat} {x : Int32} (hc : ct k pc = (48, nx, a, b, wp, ix, v)) (e : i = nI j) (hK : KT q = (0, n)) (hj : j < n) (hq : Nat.blt q σ.2.2 = true) (kk : G L xs k n0 nx ls (st) (u2 σ.1 q (upd (σ.1 q) j x), σ.2) r σE) : G L xs k n0 pc ls (.int x :: .int i :: .ref q :: st) σ r σE := by
  intro l dC dI cI cZ cII base b0 p en R s m args below meth c H locs Q mls mc lv hH hP hS hn hc1 hc2 hret
  obtain ⟨hx, hb, hml, hown, hts, hpk, hini, hfr, hlo, hbs, hX⟩ := mc
  obtain ⟨hd, hnx, hsd, hk⟩ := ct_ok hc rfl
  have hd : decode (mb k) pc = .ok (.iastore, 1) := hd
  have e1 : nx = pc + 1 := Nat.eq_of_beq_eq_true hnx
  subst e1
  have hqn : q < σ.2.2 := Nat.le_of_ble_eq_true hq
  have h32 : q < 24 := KT_lt hK (by decide)
  obtain ⟨hin, hcl⟩ := nI_vp e hj (Nat.lt_trans (KT_n hK) (by decide))
  show W p l en R s m args below meth c H locs _ _ Q (F0 m pc mls (.int x :: .int i :: cv base b0 (.ref q) :: st.map (cv base b0)))
  rw [cv_ref h32]
  have hcell : H[base + q]? = some (arrV cI n (fun j => .int (σ.1 q j))) := hP q (base + q, .inl (cI, n, .inl (σ.1 q))) ((vw_get hqn).trans (by rw [vent_i hK]))
  refine W.iast hx hb hcell ((hpk.1.2 0 _ rfl).1 n (fun j => .int (σ.1 q j))) (fun q => by cases q) (by show ¬ (i < 0 ∨ (arrV _ _ _).slots.size ≤ _); rw [arrV_size]; exact hin) rfl rfl hd fun H1 e1 z oq => ?_
  rw [hcl] at e1 ⊢
  have hz : vent cI cZ cII base (u2 σ.1 q (upd (σ.1 q) j x), σ.2) q = .inl (cI, n, .inl (upd (σ.1 q) j x)) := by
    rw [vent_i hK]
    simp [u2]
  have hP1 : va_P (dC, dI) cls ((vw cI cZ cII base σ).set q (base + q, vent cI cZ cII base (u2 σ.1 q (upd (σ.1 q) j x), σ.2) q)) H1 := by
    refine hP.set vw_D (vw_get hqn) ?_ oq
    rw [hz]
    show H1[base + q]? = some (vp_cell _ _)
    rw [e1]
    rw [vp_cell_i, arrV_store]
    congr 2
    funext y
    by_cases hy : y = j
    · subst hy
      simp [updV, upd]
    · simp [updV, upd, hy]
  rw [vw_set (σ' := (u2 σ.1 q (upd (σ.1 q) j x), σ.2)) hqn rfl (fun y hy => vent_eq (u2_ne hy) rfl)] at hP1
  exact kk l dC dI cI cZ cII base b0 p en R s m args below meth c H1 _ Q mls ⟨hx, hb, hml, hown, hts, hpk, hini, hfr, hlo, hbs, hX⟩ lv (z.trans hH) hP1 (va_S.put (k := j) hS z oq (Nat.le_add_right base q)) hn hc1 hc2 hret
theorem G_bastore {L : Nat} {xs : Nat → Int32} {k n0 pc nx a b wp ix : Nat} {v : Int32} {ls : Lc} {st : List Value} {σ σE : St} {r : Option Value} {i : Int32} {q j n : Nat} {x : Int32} (hc : ct k pc = (49, nx, a, b, wp, ix, v)) (e : i = nI j) (hK : KT q = (1, n)) (hj : j < n) (hq : Nat.blt q σ.2.2 = true) (hxx : narrow .boolean (.int x) = .int x) (kk : G L xs k n0 nx ls (st) (u2 σ.1 q (upd (σ.1 q) j x), σ.2) r σE) : G L xs k n0 pc ls (.int x :: .int i :: .ref q :: st) σ r σE := by
  intro l dC dI cI cZ cII base b0 p en R s m args below meth c H locs Q mls mc lv hH hP hS hn hc1 hc2 hret
  obtain ⟨hx, hb, hml, hown, hts, hpk, hini, hfr, hlo, hbs, hX⟩ := mc
  obtain ⟨hd, hnx, hsd, hk⟩ := ct_ok hc rfl
  have hd : decode (mb k) pc = .ok (.bastore, 1) := hd
  have e1 : nx = pc + 1 := Nat.eq_of_beq_eq_true hnx
  subst e1
  have hqn : q < σ.2.2 := Nat.le_of_ble_eq_true hq
  have h32 : q < 24 := KT_lt hK (by decide)
  obtain ⟨hin, hcl⟩ := nI_vp e hj (Nat.lt_trans (KT_n hK) (by decide))
  show W p l en R s m args below meth c H locs _ _ Q (F0 m pc mls (.int x :: .int i :: cv base b0 (.ref q) :: st.map (cv base b0)))
  rw [cv_ref h32]
  have hcell : H[base + q]? = some (arrV cZ n (fun j => .int (σ.1 q j))) := hP q (base + q, .inl (cZ, n, .inl (σ.1 q))) ((vw_get hqn).trans (by rw [vent_z hK]))
  refine W.zast hx hb hcell ((hpk.1.2 1 _ rfl).1 n (fun j => .int (σ.1 q j))) (fun q => by cases q) (by show ¬ (i < 0 ∨ (arrV _ _ _).slots.size ≤ _); rw [arrV_size]; exact hin) rfl rfl hd fun H1 e1 z oq => ?_
  rw [hcl] at e1 ⊢
  have hz : vent cI cZ cII base (u2 σ.1 q (upd (σ.1 q) j x), σ.2) q = .inl (cZ, n, .inl (upd (σ.1 q) j x)) := by
    rw [vent_z hK]
    simp [u2]
  have hP1 : va_P (dC, dI) cls ((vw cI cZ cII base σ).set q (base + q, vent cI cZ cII base (u2 σ.1 q (upd (σ.1 q) j x), σ.2) q)) H1 := by
    refine hP.set vw_D (vw_get hqn) ?_ oq
    rw [hz]
    show H1[base + q]? = some (vp_cell _ _)
    rw [e1]
    rw [vp_cell_i, arrV_store]
    congr 2
    funext y
    by_cases hy : y = j
    · subst hy
      simp [updV, upd, hxx]
    · simp [updV, upd, hy]
  rw [vw_set (σ' := (u2 σ.1 q (upd (σ.1 q) j x), σ.2)) hqn rfl (fun y hy => vent_eq (u2_ne hy) rfl)] at hP1
  exact kk l dC dI cI cZ cII base b0 p en R s m args below meth c H1 _ Q mls ⟨hx, hb, hml, hown, hts, hpk, hini, hfr, hlo, hbs, hX⟩ lv (z.trans hH) hP1 (va_S.put (k := j) hS z oq (Nat.le_add_right base q)) hn hc1 hc2 hret
theorem G_aaload {L : Nat} {xs : Nat → Int32} {k n0 pc nx a b wp ix : Nat} {v : Int32} {ls : Lc} {st : List Value} {σ σE : St} {r : Option Value} {i : Int32} {q j n : Nat} {w : Value} (hc : ct k pc = (50, nx, a, b, wp, ix, v)) (e : i = nI j) (hK : KT q = (2, n)) (hj : j < n) (hq : Nat.blt q σ.2.2 = true) (hw : rfv (σ.2.1 q j) = w) (hnr : nref w = true) (kk : G L xs k n0 nx ls (w :: st) σ r σE) : G L xs k n0 pc ls (.int i :: .ref q :: st) σ r σE := by
  intro l dC dI cI cZ cII base b0 p en R s m args below meth c H locs Q mls mc lv hH hP hS hn hc1 hc2 hret
  obtain ⟨hx, hb, hml, hown, hts, hpk, hini, hfr, hlo, hbs, hX⟩ := mc
  obtain ⟨hd, hnx, hsd, hk⟩ := ct_ok hc rfl
  have hd : decode (mb k) pc = .ok (.aaload, 1) := hd
  have e1 : nx = pc + 1 := Nat.eq_of_beq_eq_true hnx
  subst e1
  have hqn : q < σ.2.2 := Nat.le_of_ble_eq_true hq
  have h32 : q < 24 := KT_lt hK (by decide)
  obtain ⟨hin, hcl⟩ := nI_vp e hj (Nat.lt_trans (KT_n hK) (by decide))
  show W p l en R s m args below meth c H locs _ _ Q (F0 m pc mls (.int i :: cv base b0 (.ref q) :: st.map (cv base b0)))
  rw [cv_ref h32]
  have hlt : i.toNatClampNeg < n := by rw [hcl]; exact hj
  have hcell : H[base + q]? = some (arrV cII n (fun j => va_rf ((σ.2.1 q j).map (fun a => base + a)))) := hP q (base + q, .inl (cII, n, .inr (.inr (.inr (.inr (fun j => (σ.2.1 q j).map (fun a => base + a))))))) ((vw_get hqn).trans (by rw [vent_a hK]))
  refine W.aald (v := va_rf ((σ.2.1 q i.toNatClampNeg).map (fun a => base + a))) (ty := .array .int) hx hb hcell ((hpk.1.2 2 _ rfl).1 n (fun j => va_rf ((σ.2.1 q j).map (fun a => base + a)))) rfl (fun q => by cases q) (by show ¬ (i < 0 ∨ (arrV _ _ _).slots.size ≤ _); rw [arrV_size]; exact hin) (by show (arrV _ _ _).slots[_]? = _; rw [arrV_read _ _ hlt]) rfl rfl hd ?_
  have hv : va_rf ((σ.2.1 q i.toNatClampNeg).map (fun a => base + a)) = cv base b0 w := by
    rw [hcl, ← hw]
    cases hq9 : σ.2.1 q j with
    | none => rfl
    | some y =>
      rw [hq9] at hw
      rw [← hw] at hnr
      have hq1 : y < 1000 := Nat.le_of_ble_eq_true hnr
      show Value.ref (base + y) = Value.ref (if y = 1000 then b0 else base + y)
      rw [if_neg (by omega)]
  rw [hv]
  exact kk l dC dI cI cZ cII base b0 p en R s m args below meth c H locs Q mls ⟨hx, hb, hml, hown, hts, hpk, hini, hfr, hlo, hbs, hX⟩ lv hH hP hS hn hc1 hc2 hret
theorem G_aastore {L : Nat} {xs : Nat → Int32} {k n0 pc nx a b wp ix : Nat} {v : Int32} {ls : Lc} {st : List Value} {σ σE : St} {r : Option Value} {i : Int32} {q j n : Nat} {y n9 : Nat} (hc : ct k pc = (51, nx, a, b, wp, ix, v)) (e : i = nI j) (hK : KT q = (2, n)) (hj : j < n) (hq : Nat.blt q σ.2.2 = true) (hy : Nat.blt y σ.2.2 = true) (hKy : KT y = (0, n9)) (kk : G L xs k n0 nx ls (st) (σ.1, u2 σ.2.1 q (va_up (σ.2.1 q) j (some y)), σ.2.2) r σE) : G L xs k n0 pc ls (.ref y :: .int i :: .ref q :: st) σ r σE := by
  intro l dC dI cI cZ cII base b0 p en R s m args below meth c H locs Q mls mc lv hH hP hS hn hc1 hc2 hret
  obtain ⟨hx, hb, hml, hown, hts, hpk, hini, hfr, hlo, hbs, hX⟩ := mc
  obtain ⟨hd, hnx, hsd, hk⟩ := ct_ok hc rfl
  have hd : decode (mb k) pc = .ok (.aastore, 1) := hd
  have e1 : nx = pc + 1 := Nat.eq_of_beq_eq_true hnx
  subst e1
  have hqn : q < σ.2.2 := Nat.le_of_ble_eq_true hq
  have h32 : q < 24 := KT_lt hK (by decide)
  obtain ⟨hin, hcl⟩ := nI_vp e hj (Nat.lt_trans (KT_n hK) (by decide))
  have hyn : y < σ.2.2 := Nat.le_of_ble_eq_true hy
  have y32 : y < 24 := KT_lt hKy (by decide)
  show W p l en R s m args below meth c H locs _ _ Q (F0 m pc mls (cv base b0 (.ref y) :: .int i :: cv base b0 (.ref q) :: st.map (cv base b0)))
  rw [cv_ref h32, cv_ref y32]
  obtain ⟨kA, kI, c1, c2, c3⟩ := hpk.2.2.1
  have hcell : H[base + q]? = some (arrV cII n (fun j => va_rf ((σ.2.1 q j).map (fun a => base + a)))) := hP q (base + q, .inl (cII, n, .inr (.inr (.inr (.inr (fun j => (σ.2.1 q j).map (fun a => base + a))))))) ((vw_get hqn).trans (by rw [vent_a hK]))
  have hcy : H[base + y]? = some (arrV cI n9 (fun j => .int (σ.1 y j))) := hP y (base + y, .inl (cI, n9, .inl (σ.1 y))) ((vw_get hyn).trans (by rw [vent_i hKy]))
  refine W.aast (t := .array .int) hx hb hcell (fun q h => by cases h) (fun h => by cases h) c1 c2 rfl c3 ⟨fun h => hin (Or.inl h), by show _ < (arrV _ _ _).slots.size; rw [arrV_size, hcl]; exact hj⟩ hcy (fun q h => by cases h) c3 (va_asg _ _) rfl rfl hd fun H1 e1 z oq => ?_
  rw [hcl] at e1 ⊢
  have hz : vent cI cZ cII base (σ.1, u2 σ.2.1 q (va_up (σ.2.1 q) j (some y)), σ.2.2) q = .inl (cII, n, .inr (.inr (.inr (.inr (fun t => (va_up (σ.2.1 q) j (some y) t).map (fun a => base + a)))))) := by
    rw [vent_a hK]
    simp [u2]
  have hP1 : va_P (dC, dI) cls ((vw cI cZ cII base σ).set q (base + q, vent cI cZ cII base (σ.1, u2 σ.2.1 q (va_up (σ.2.1 q) j (some y)), σ.2.2) q)) H1 := by
    refine hP.set vw_D (vw_get hqn) ?_ oq
    rw [hz]
    show H1[base + q]? = some (vp_cell _ _)
    rw [e1]
    rw [vp_cell_q, arrV_store]
    congr 2
    funext t
    by_cases ht : t = j
    · subst ht
      simp [updV, va_up, va_rf]
    · simp [updV, va_up, ht]
  rw [vw_set (σ' := (σ.1, u2 σ.2.1 q (va_up (σ.2.1 q) j (some y)), σ.2.2)) hqn rfl (fun y hy => vent_eq rfl (u2_ne hy))] at hP1
  exact kk l dC dI cI cZ cII base b0 p en R s m args below meth c H1 _ Q mls ⟨hx, hb, hml, hown, hts, hpk, hini, hfr, hlo, hbs, hX⟩ lv (z.trans hH) hP1 (va_S.put (k := j) hS z oq (Nat.le_add_right base q)) hn hc1 hc2 hret
